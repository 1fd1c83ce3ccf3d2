/-! the law's entry: tables, read-only objects, statics, texts -/
abbrev st_at (b : Nat) (s : State) : Prop := (∀ w ∈ lw_tbl, w.before #[Value.ref b] s = true) ∧ (∀ c ∈ flatC (Jvm.Cond.and given_1 narrow_1), c.before #[Value.ref b] s = true)
abbrev st_A (s : State) : Nat → Prop := fun q => s.heap.size ≤ q
theorem st_hA (s : State) : ∀ a : Nat, a < s.heap.size → ¬ st_A s a := fun a h q => by
  have q : s.heap.size ≤ a := q
  omega
theorem st_words {b : Nat} {s : State} (h : st_at b s) : ∀ w ∈ x_Wd, w.before #[Value.ref b] s = true := by
  intro w hw
  rcases List.mem_append.mp hw with q | q
  · exact h.1 w (List.mem_filter.mp q).1
  · have z : ∀ w ∈ x_nc, w ∈ flatC (Jvm.Cond.and given_1 narrow_1) := by decide +kernel
    exact h.2 w (z w q)
theorem st_cls {b : Nat} {s : State} (h : st_at b s) : ∃ D : va_G, ∀ (k : Nat) (q : vw_C), x_cls[k]? = some q → u_Kn s q.1 q.2.1 q.2.2 (D.1 k) (D.2 k) := by
  have hw := st_words h
  have key : ∀ k : Nat, ∃ d : ClassId × (Nat → Nat), ∀ q : vw_C, x_cls[k]? = some q → u_Kn s q.1 q.2.1 q.2.2 d.1 d.2 := by
    intro k
    match k with
    | 0 =>
      obtain ⟨c, i, hk⟩ := u_known (C := "CashLink") (T := xT0) (N := 4) (n := 4) hw xw0 (hw _ (x_i1 37 (Eq.refl _) rfl))
      exact ⟨(c, i), fun q hq => by cases hq; exact hk⟩
    | 1 =>
      obtain ⟨c, i, hk⟩ := u_known (C := "CashLink$Network") (T := xT1) (N := 1) (n := 1) hw xw1 (hw _ (x_i1 47 (Eq.refl _) rfl))
      exact ⟨(c, i), fun q hq => by cases hq; exact hk⟩
    | 2 =>
      obtain ⟨c, i, hk⟩ := u_known (C := "CashLink$Bank") (T := xT2) (N := 5) (n := 5) hw xw2 (hw _ (x_i1 83 (Eq.refl _) rfl))
      exact ⟨(c, i), fun q hq => by cases hq; exact hk⟩
    | 3 =>
      obtain ⟨c, i, hk⟩ := u_known (C := "CashLink$Machine") (T := xT3) (N := 11) (n := 11) hw xw3 (hw _ (x_i1 131 (Eq.refl _) rfl))
      exact ⟨(c, i), fun q hq => by cases hq; exact hk⟩
    | 4 =>
      obtain ⟨c, i, hk⟩ := u_known (C := "CashLink$Journal") (T := xT4) (N := 5) (n := 5) hw xw4 (hw _ (x_i1 89 (Eq.refl _) rfl))
      exact ⟨(c, i), fun q hq => by cases hq; exact hk⟩
    | 5 =>
      obtain ⟨c, i, hk⟩ := u_known (C := "CashLink$Dispenser") (T := xT5) (N := 5) (n := 5) hw xw5 (hw _ (x_i1 139 (Eq.refl _) rfl))
      exact ⟨(c, i), fun q hq => by cases hq; exact hk⟩
    | 6 =>
      obtain ⟨c, i, hk⟩ := u_known (C := "CashLink$Entry") (T := xT6) (N := 6) (n := 6) hw xw6 (hw _ (x_i2 151 (Eq.refl _) rfl))
      exact ⟨(c, i), fun q hq => by cases hq; exact hk⟩
    | 7 =>
      obtain ⟨c, i, hk⟩ := u_known (C := "CashLink$Message") (T := xT7) (N := 6) (n := 6) hw xw7 (hw _ (x_i3 29 (Eq.refl _) rfl))
      exact ⟨(c, i), fun q hq => by cases hq; exact hk⟩
    | 8 =>
      obtain ⟨c, i, hk⟩ := u_known (C := "java/util/ArrayList") (T := xT8) (N := 3) (n := 3) hw xw8 (hw _ (x_i1 53 (Eq.refl _) rfl))
      exact ⟨(c, i), fun q hq => by cases hq; exact hk⟩
    | 9 =>
      obtain ⟨c, i, hk⟩ := u_known (C := "java/lang/StringBuilder") (T := xT9) (N := 4) (n := 4) hw xw9 (hw _ (x_i4 218 (Eq.refl _) rfl))
      exact ⟨(c, i), fun q hq => by cases hq; exact hk⟩
    | 10 =>
      obtain ⟨c, i, hk⟩ := u_known (C := "CashLinkModel") (T := xT10) (N := 31) (n := 31) hw xw10 (hw _ (x_i5 200 (Eq.refl _) rfl))
      exact ⟨(c, i), fun q hq => by cases hq; exact hk⟩
    | 11 =>
      obtain ⟨c, i, hk⟩ := u_known (C := "java/lang/IllegalArgumentException") (T := xT11) (N := 0) (n := 6) hw xw11 (hw _ (x_i1 231 (Eq.refl _) rfl))
      exact ⟨(c, i), fun q hq => by cases hq; exact hk⟩
    | 12 =>
      obtain ⟨c, i, hk⟩ := u_known (C := "java/lang/IllegalStateException") (T := xT12) (N := 0) (n := 6) hw xw12 (hw _ (x_i2 75 (Eq.refl _) rfl))
      exact ⟨(c, i), fun q hq => by cases hq; exact hk⟩
    | 13 =>
      obtain ⟨c, i, hk⟩ := u_known (C := "java/lang/UnsupportedOperationException") (T := xT13) (N := 0) (n := 6) hw xw13 (hw _ (x_i2 135 (Eq.refl _) rfl))
      exact ⟨(c, i), fun q hq => by cases hq; exact hk⟩
    | 14 =>
      obtain ⟨c, i, hk⟩ := u_known (C := "java/lang/ArithmeticException") (T := xT14) (N := 0) (n := 6) hw xw14 (hw _ (x_i3 6 (Eq.refl _) rfl))
      exact ⟨(c, i), fun q hq => by cases hq; exact hk⟩
    | 15 =>
      obtain ⟨c, i, hk⟩ := u_known (C := "java/lang/IndexOutOfBoundsException") (T := xT15) (N := 0) (n := 6) hw xw15 (hw _ (x_i3 163 (Eq.refl _) rfl))
      exact ⟨(c, i), fun q hq => by cases hq; exact hk⟩
    | k + 16 => exact ⟨(0, fun _ => 0), fun q hq => by
        have : k + 16 < x_cls.length := (List.getElem?_eq_some_iff.mp hq).1
        have hl : x_cls.length = 16 := rfl
        omega⟩
  obtain ⟨f, hf⟩ := Classical.axiomOfChoice key
  exact ⟨(fun k => (f k).1, fun k => (f k).2), fun k q hq => hf k q hq⟩
theorem st_arr {b : Nat} {s : State} (h : st_at b s) : ∃ dA : Nat → ClassId, ∀ q ty, x_tys[q]? = some ty → ArrOfT s (dA q) ty ∧ va_RA s (dA q) ty := by
  have hw := st_words h
  have key : ∀ q : Nat, ∃ c : ClassId, ∀ ty, x_tys[q]? = some ty → ArrOfT s c ty ∧ va_RA s c ty := by
    intro q
    match q with
    | 0 =>
      obtain ⟨c, k, comp, h1, h2, h3⟩ := Cond.arrayClass_spec (hw _ (x_i1 112 (Eq.refl _) rfl))
      exact ⟨c, fun ty hq => by cases hq; exact ⟨fun n z => ⟨fun k h => (by cases h), k, h2, comp, h3⟩, h1⟩⟩
    | 1 =>
      obtain ⟨c, k, comp, h1, h2, h3⟩ := Cond.arrayClass_spec (hw _ (x_i6 231 (Eq.refl _) rfl))
      exact ⟨c, fun ty hq => by cases hq; exact ⟨fun n z => ⟨fun k h => (by cases h), k, h2, comp, h3⟩, h1⟩⟩
    | 2 =>
      obtain ⟨c, k, comp, h1, h2, h3⟩ := Cond.arrayClass_spec (hw _ (x_i2 59 (Eq.refl _) rfl))
      exact ⟨c, fun ty hq => by cases hq; exact ⟨fun n z => ⟨fun k h => (by cases h), k, h2, comp, h3⟩, h1⟩⟩
    | 3 =>
      obtain ⟨comp, c, k, h1, h2, h3, h4, h5⟩ := Cond.arrayOver_spec (hw _ (x_i2 237 (Eq.refl _) rfl))
      exact ⟨c, fun ty hq => by cases hq; exact ⟨fun n z => ⟨fun k h => (by cases h), k, h3, comp, h4⟩, k, comp, h3, h4, h1, h5⟩⟩
    | 4 =>
      obtain ⟨comp, c, k, h1, h2, h3, h4, h5⟩ := Cond.arrayOver_spec (hw _ (x_i1 45 (Eq.refl _) rfl))
      exact ⟨c, fun ty hq => by cases hq; exact ⟨fun n z => ⟨fun k h => (by cases h), k, h3, comp, h4⟩, k, comp, h3, h4, h1, h5⟩⟩
    | q + 5 => exact ⟨0, fun ty hq => by
        have : q + 5 < x_tys.length := (List.getElem?_eq_some_iff.mp hq).1
        have hl : x_tys.length = 5 := rfl
        omega⟩
  obtain ⟨f, hf⟩ := Classical.axiomOfChoice key
  exact ⟨f, fun q ty hq => hf q ty hq⟩
set_option maxRecDepth 100000 in
set_option maxHeartbeats 4000000 in
theorem st_State {b : Nat} {s : State} (h : st_at b s) : ∃ ad : Nat → Nat, va_En "CashLink$State" "LCashLink$State;" ["EMPTY", "CARD", "READY", "WAITS"] [("CashLink$State", "number", "I", [1, 2, 3, 4])] ad (st_A s) s s.heap ∧ ∀ i, i < 4 → (Term.static "CashLink$State" (["EMPTY", "CARD", "READY", "WAITS"].getD i "") "LCashLink$State;").eval #[Value.ref b] s none [] s = some (.ref (ad i)) := by
  refine va_Enof2 (nm := ["EMPTY", "CARD", "READY", "WAITS"]) (F := [("CashLink$State", "number", "I", [1, 2, 3, 4])]) ?_ (h.1 _ (by decide +kernel)) ?_ ?_ ?_ (st_hA s)
  · intro i hi
    have hi : i < 4 := hi
    rcases (show i = 0 ∨ i = 1 ∨ i = 2 ∨ i = 3 by omega) with rfl | rfl | rfl | rfl <;> exact h.1 _ (by decide +kernel)
  · intro i hi
    have hi : i < 4 := hi
    rcases (show i = 0 ∨ i = 1 ∨ i = 2 ∨ i = 3 by omega) with rfl | rfl | rfl | rfl <;> exact h.2 _ (by decide +kernel)
  · intro q hq i hi
    have hi : i < 4 := hi
    simp only [List.mem_cons, List.not_mem_nil, or_false] at hq
    rcases hq with rfl <;> rcases (show i = 0 ∨ i = 1 ∨ i = 2 ∨ i = 3 by omega) with rfl | rfl | rfl | rfl <;> exact h.2 _ (by decide +kernel)
  · intro i j hi hj hij
    have hi : i < 4 := hi
    have hj : j < 4 := hj
    rcases (show i = 0 ∨ i = 1 ∨ i = 2 ∨ i = 3 by omega) with rfl | rfl | rfl | rfl <;> rcases (show j = 0 ∨ j = 1 ∨ j = 2 ∨ j = 3 by omega) with rfl | rfl | rfl | rfl <;> first | exact absurd rfl hij | exact Or.inl (h.2 _ (by decide +kernel)) | exact Or.inr (h.2 _ (by decide +kernel))
set_option maxRecDepth 100000 in
set_option maxHeartbeats 4000000 in
theorem st_Type {b : Nat} {s : State} (h : st_at b s) : ∃ ad : Nat → Nat, va_En "CashLink$Type" "LCashLink$Type;" ["REQUEST", "REQUEST_ANSWER", "REVERSAL", "REVERSAL_ANSWER", "TOTALS", "TOTALS_ANSWER"] [("CashLink$Type", "toBank", "Z", [1, 0, 1, 0, 1, 0]), ("CashLink$Type", "hasAccount", "Z", [1, 0, 0, 0, 0, 0]), ("CashLink$Type", "hasAnswer", "Z", [0, 1, 0, 0, 0, 1])] ad (st_A s) s s.heap ∧ ∀ i, i < 6 → (Term.static "CashLink$Type" (["REQUEST", "REQUEST_ANSWER", "REVERSAL", "REVERSAL_ANSWER", "TOTALS", "TOTALS_ANSWER"].getD i "") "LCashLink$Type;").eval #[Value.ref b] s none [] s = some (.ref (ad i)) := by
  refine va_Enof2 (nm := ["REQUEST", "REQUEST_ANSWER", "REVERSAL", "REVERSAL_ANSWER", "TOTALS", "TOTALS_ANSWER"]) (F := [("CashLink$Type", "toBank", "Z", [1, 0, 1, 0, 1, 0]), ("CashLink$Type", "hasAccount", "Z", [1, 0, 0, 0, 0, 0]), ("CashLink$Type", "hasAnswer", "Z", [0, 1, 0, 0, 0, 1])]) ?_ (h.1 _ (by decide +kernel)) ?_ ?_ ?_ (st_hA s)
  · intro i hi
    have hi : i < 6 := hi
    rcases (show i = 0 ∨ i = 1 ∨ i = 2 ∨ i = 3 ∨ i = 4 ∨ i = 5 by omega) with rfl | rfl | rfl | rfl | rfl | rfl <;> exact h.1 _ (by decide +kernel)
  · intro i hi
    have hi : i < 6 := hi
    rcases (show i = 0 ∨ i = 1 ∨ i = 2 ∨ i = 3 ∨ i = 4 ∨ i = 5 by omega) with rfl | rfl | rfl | rfl | rfl | rfl <;> exact h.2 _ (by decide +kernel)
  · intro q hq i hi
    have hi : i < 6 := hi
    simp only [List.mem_cons, List.not_mem_nil, or_false] at hq
    rcases hq with rfl | rfl | rfl <;> rcases (show i = 0 ∨ i = 1 ∨ i = 2 ∨ i = 3 ∨ i = 4 ∨ i = 5 by omega) with rfl | rfl | rfl | rfl | rfl | rfl <;> exact h.2 _ (by decide +kernel)
  · intro i j hi hj hij
    have hi : i < 6 := hi
    have hj : j < 6 := hj
    rcases (show i = 0 ∨ i = 1 ∨ i = 2 ∨ i = 3 ∨ i = 4 ∨ i = 5 by omega) with rfl | rfl | rfl | rfl | rfl | rfl <;> rcases (show j = 0 ∨ j = 1 ∨ j = 2 ∨ j = 3 ∨ j = 4 ∨ j = 5 by omega) with rfl | rfl | rfl | rfl | rfl | rfl <;> first | exact absurd rfl hij | exact Or.inl (h.2 _ (by decide +kernel)) | exact Or.inr (h.2 _ (by decide +kernel))
theorem st_W0 {b : Nat} {s : State} (h : st_at b s) : ∃ t : Nat, va_Z "CashLink$Dispenser" "WORTH" "[I" (.ref t) (st_A s) s s.heap ∧ va_T .int t 4 (fun j => .int (([5, 10, 20, 50] : List Int32).getD j 0)) (st_A s) s s.heap := by
  obtain ⟨t, h1, h2⟩ := va_Tof (tm := .static "CashLink$Dispenser" "WORTH" "[I") (N := 4) (f := fun j => .int (([5, 10, 20, 50] : List Int32).getD j 0)) (by decide) (h.2 (Cond.arrayOf (.static "CashLink$Dispenser" "WORTH" "[I") .int) (by decide +kernel)) (va_eqt (h.2 _ (by decide +kernel))) (fun j hj => by rcases (show j = 0 ∨ j = 1 ∨ j = 2 ∨ j = 3 by omega) with rfl | rfl | rfl | rfl <;> exact va_eqt (h.2 _ (by decide +kernel))) (st_hA s)
  exact ⟨t, va_Zref (h.1 _ (by decide +kernel)) (h.1 _ (by decide +kernel)) h1 (st_hA s), h2⟩
theorem st_W1 {b : Nat} {s : State} (h : st_at b s) : ∃ t : Nat, va_Z "CashLinkModel" "WORTH" "[I" (.ref t) (st_A s) s s.heap ∧ va_T .int t 4 (fun j => .int (([5, 10, 20, 50] : List Int32).getD j 0)) (st_A s) s s.heap := by
  obtain ⟨t, h1, h2⟩ := va_Tof (tm := .static "CashLinkModel" "WORTH" "[I") (N := 4) (f := fun j => .int (([5, 10, 20, 50] : List Int32).getD j 0)) (by decide) (h.2 (Cond.arrayOf (.static "CashLinkModel" "WORTH" "[I") .int) (by decide +kernel)) (va_eqt (h.2 _ (by decide +kernel))) (fun j hj => by rcases (show j = 0 ∨ j = 1 ∨ j = 2 ∨ j = 3 by omega) with rfl | rfl | rfl | rfl <;> exact va_eqt (h.2 _ (by decide +kernel))) (st_hA s)
  exact ⟨t, va_Zref (h.1 _ (by decide +kernel)) (h.1 _ (by decide +kernel)) h1 (st_hA s), h2⟩
theorem st_E0 {b : Nat} {s : State} (h : st_at b s) : ∃ t : Nat, va_Z "java/util/ArrayList" "DEFAULTCAPACITY_EMPTY_ELEMENTDATA" "[Ljava/lang/Object;" (.ref t) (st_A s) s s.heap ∧ ∀ f, va_T (.object "java/lang/Object") t 0 f (st_A s) s s.heap := by
  have hl : (Term.length (.static "java/util/ArrayList" "DEFAULTCAPACITY_EMPTY_ELEMENTDATA" "[Ljava/lang/Object;")).eval #[Value.ref b] s none [] s = some (.int (Int32.ofNat 0)) := va_eqt (h.2 _ (by decide +kernel))
  have ha := h.2 (Cond.arrayOf (.static "java/util/ArrayList" "DEFAULTCAPACITY_EMPTY_ELEMENTDATA" "[Ljava/lang/Object;") (.object "java/lang/Object")) (by decide +kernel)
  obtain ⟨t, h1, h2⟩ := va_Tof (N := 0) (f := fun _ => .null) (by decide) ha hl (fun j hj => absurd hj (Nat.not_lt_zero j)) (st_hA s)
  refine ⟨t, va_Zref (h.1 _ (by decide +kernel)) (h.1 _ (by decide +kernel)) h1 (st_hA s), fun f => ?_⟩
  obtain ⟨cell, c1, c2, c3, c4, c5, -, c7⟩ := h2
  exact ⟨cell, c1, c2, c3, c4, c5, fun j hj => absurd hj (Nat.not_lt_zero j), c7⟩
theorem st_CS {b : Nat} {s : State} (h : st_at b s) : va_Z "java/lang/String" "COMPACT_STRINGS" "Z" (.int 1) (st_A s) s s.heap := va_Zof (h.1 _ (by decide +kernel)) (h.1 _ (by decide +kernel)) (va_eqi (h.2 _ (by decide +kernel))) (st_hA s)
theorem st_thr {b : Nat} {s : State} (h : st_at b s) : vx_Zq Bundle.tN "UNASSIGNED_STACK" Bundle.steD (st_A s) s s.heap ∧ vx_Zq Bundle.tN "SUPPRESSED_SENTINEL" Bundle.listD (st_A s) s s.heap := ⟨vx_Zqof (h.1 _ (by decide +kernel)) (h.1 _ (by decide +kernel)) (h.2 _ (by decide +kernel)) (st_hA s), vx_Zqof (h.1 _ (by decide +kernel)) (h.1 _ (by decide +kernel)) (h.2 _ (by decide +kernel)) (st_hA s)⟩
def st_tm (i : Nat) : Term := .string "CashLink$Type" (([56, 62, 65, 68, 71, 74] : List Nat).getD i 0)
def st_byt : List (List Int32) := [[48, 50, 48, 48], [48, 50, 49, 48], [48, 52, 50, 48], [48, 52, 51, 48], [48, 53, 48, 48], [48, 53, 49, 48]]
set_option maxRecDepth 100000 in
set_option maxHeartbeats 4000000 in
theorem st_dig {b : Nat} {s : State} (h : st_at b s) : ∃ adK adV : Nat → Nat, vk_S 6 [4, 4, 4, 4, 4, 4] st_byt adK adV (st_A s) s s.heap ∧ ∀ i : Nat, i < 6 → (st_tm i).eval #[Value.ref b] s none [] s = some (.ref (adK i)) := by
  refine vk_Sof (tm := st_tm) ?_ ?_ ?_ ?_ ?_ ?_ ?_ (st_hA s)
  · intro i hi
    rcases (show i = 0 ∨ i = 1 ∨ i = 2 ∨ i = 3 ∨ i = 4 ∨ i = 5 by omega) with rfl | rfl | rfl | rfl | rfl | rfl <;> decide
  · intro i hi
    rcases (show i = 0 ∨ i = 1 ∨ i = 2 ∨ i = 3 ∨ i = 4 ∨ i = 5 by omega) with rfl | rfl | rfl | rfl | rfl | rfl <;> exact h.2 _ (by decide +kernel)
  · intro i hi
    rcases (show i = 0 ∨ i = 1 ∨ i = 2 ∨ i = 3 ∨ i = 4 ∨ i = 5 by omega) with rfl | rfl | rfl | rfl | rfl | rfl <;> exact h.2 _ (by decide +kernel)
  · intro i hi
    rcases (show i = 0 ∨ i = 1 ∨ i = 2 ∨ i = 3 ∨ i = 4 ∨ i = 5 by omega) with rfl | rfl | rfl | rfl | rfl | rfl <;> exact h.2 _ (by decide +kernel)
  · intro i hi
    rcases (show i = 0 ∨ i = 1 ∨ i = 2 ∨ i = 3 ∨ i = 4 ∨ i = 5 by omega) with rfl | rfl | rfl | rfl | rfl | rfl <;> exact h.2 _ (by decide +kernel)
  · intro i hi j hj
    rcases (show i = 0 ∨ i = 1 ∨ i = 2 ∨ i = 3 ∨ i = 4 ∨ i = 5 by omega) with rfl | rfl | rfl | rfl | rfl | rfl <;> (have hj : j < 4 := hj) <;> rcases (show j = 0 ∨ j = 1 ∨ j = 2 ∨ j = 3 by omega) with rfl | rfl | rfl | rfl <;> exact h.2 _ (by decide +kernel)
  · intro i j hi hj hij
    rcases (show i = 0 ∨ i = 1 ∨ i = 2 ∨ i = 3 ∨ i = 4 ∨ i = 5 by omega) with rfl | rfl | rfl | rfl | rfl | rfl <;> rcases (show j = 0 ∨ j = 1 ∨ j = 2 ∨ j = 3 ∨ j = 4 ∨ j = 5 by omega) with rfl | rfl | rfl | rfl | rfl | rfl <;> first | exact absurd rfl hij | exact Or.inl (h.2 _ (by decide +kernel)) | exact Or.inr (h.2 _ (by decide +kernel))
set_option maxRecDepth 100000 in
set_option maxHeartbeats 4000000 in
theorem st_strs {b : Nat} {s : State} (h : st_at b s) : ∀ q ∈ x_strs, ∃ a, vk_R q.1 q.2.1 q.2.2 a s := by
  intro q hq
  have h1 : (Cond.stringRef q.1 q.2.1 q.2.2).before #[Value.ref b] s = true := h.1 _ ((by decide +kernel : ∀ q ∈ x_strs, Cond.stringRef q.1 q.2.1 q.2.2 ∈ lw_tbl) q hq)
  have h2 : (Cond.exactly (.string q.1 q.2.1) "java/lang/String").before #[Value.ref b] s = true := h.2 _ ((by decide +kernel : ∀ q ∈ x_strs, Cond.exactly (.string q.1 q.2.1) "java/lang/String" ∈ flatC (Jvm.Cond.and given_1 narrow_1)) q hq)
  obtain ⟨a, c, cA, kA, q1, -⟩ := Cond.exactly_spec (args := #[Value.ref b]) (first := s) (o := none) (s := s) (idx := []) h2
  exact ⟨a, vk_R.of h1 q1⟩
theorem st_digF {b : Nat} {s : State} (h : st_at b s) : ∀ i, i < 6 → (Cond.eq (.field (.static "CashLink$Type" ((["REQUEST", "REQUEST_ANSWER", "REVERSAL", "REVERSAL_ANSWER", "TOTALS", "TOTALS_ANSWER"] : List String).getD i "") "LCashLink$Type;") "CashLink$Type" "digits" "Ljava/lang/String;") (st_tm i)).before #[Value.ref b] s = true := by
  intro i hi
  rcases (show i = 0 ∨ i = 1 ∨ i = 2 ∨ i = 3 ∨ i = 4 ∨ i = 5 by omega) with rfl | rfl | rfl | rfl | rfl | rfl <;> exact h.2 _ (by decide +kernel)
