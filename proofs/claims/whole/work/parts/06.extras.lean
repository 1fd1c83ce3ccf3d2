/-! what the Statement says of the start, as it is used: read-only objects and arrays, statics, texts -/
def x_A (G : XG) : Nat → Prop := fun q => G.2.2.1 ≤ q
def x_el (t : XT) (z : XA) (j : Nat) : Value := match z with
  | .inl f => .int (f j)
  | .inr (.inl f) => .long (f j)
  | .inr (.inr f) => xz t (xv_o (f j))
def x_sts : List (String × String × String × XV) := [
  ("CashLink$State", "EMPTY", "LCashLink$State;", xv_r 49 0), ("CashLink$State", "CARD", "LCashLink$State;", xv_r 49 1), ("CashLink$State", "READY", "LCashLink$State;", xv_r 49 2), ("CashLink$State", "WAITS", "LCashLink$State;", xv_r 49 3),
  ("CashLink$Type", "REQUEST", "LCashLink$Type;", xv_r 50 0), ("CashLink$Type", "REQUEST_ANSWER", "LCashLink$Type;", xv_r 50 1), ("CashLink$Type", "REVERSAL", "LCashLink$Type;", xv_r 50 2), ("CashLink$Type", "REVERSAL_ANSWER", "LCashLink$Type;", xv_r 50 3), ("CashLink$Type", "TOTALS", "LCashLink$Type;", xv_r 50 4), ("CashLink$Type", "TOTALS_ANSWER", "LCashLink$Type;", xv_r 50 5),
  ("CashLink$Dispenser", "WORTH", "[I", xv_r 53 0), ("CashLinkModel", "WORTH", "[I", xv_r 53 1), ("java/util/ArrayList", "DEFAULTCAPACITY_EMPTY_ELEMENTDATA", "[Ljava/lang/Object;", xv_r 54 0),
  ("java/lang/String", "COMPACT_STRINGS", "Z", xv_i 1)]
/-- no reference to what may be written -/
def x_nw (v : XV) : Prop := match v with
  | .inr (.inr (some q)) => ¬ q.1 < 48
  | _ => True
def x_KX (G : XG) (U : State) : Prop :=
  (∀ k i q n z, ¬ k < 48 → G.2.2.2.2.2 k i = some (.inr (q, n, z)) → ∃ ty, x_tys[q]? = some ty ∧ va_T ty (G.2.2.2.2.1 k i) n (x_el G.2.2.2.2.1 z) (x_A G) U G.2.2.2.1) ∧
  (∀ k i ci fs, ¬ k < 48 → k < 55 → G.2.2.2.2.2 k i = some (.inl (ci, fs)) → va_O (x_rocls ci) (G.2.2.2.2.1 k i) (x_A G) U G.2.2.2.1 ∧ (∀ v ∈ fs, x_nw v) ∧ ∀ j o n d v, x_rof ci j = some (o, n, d) → fs[j]? = some v → va_OF o n d (xz G.2.2.2.2.1 v) (G.2.2.2.2.1 k i) (x_A G) U G.2.2.2.1) ∧
  (∀ q ∈ x_sts, va_Z q.1 q.2.1 q.2.2.1 (xz G.2.2.2.2.1 q.2.2.2) (x_A G) U G.2.2.2.1 ∧ ∀ k i, q.2.2.2 = xv_r k i → ¬ k < 48 ∧ G.2.2.2.2.2 k i ≠ none) ∧
  (∀ q ∈ x_strs, ∃ a, vk_R q.1 q.2.1 q.2.2 a U) ∧
  vx_Zq Bundle.tN "UNASSIGNED_STACK" Bundle.steD (x_A G) U G.2.2.2.1 ∧ vx_Zq Bundle.tN "SUPPRESSED_SENTINEL" Bundle.listD (x_A G) U G.2.2.2.1 ∧ G.2.2.1 = G.2.2.2.1.size ∧
  (∀ k i j, (k = 49 ∨ k = 50 ∨ k = 54 ∨ k = 55) → G.2.2.2.2.2 k i ≠ none → G.2.2.2.2.2 k j ≠ none → G.2.2.2.2.1 k i = G.2.2.2.2.1 k j → i = j) ∧
  (∀ k i c, ¬ k < 55 → G.2.2.2.2.2 k i = some c → c = .inl (23, []) ∧ (k = 55 → va_Mi "[Ljava/lang/Object;" (G.2.2.2.2.1 k i) U)) ∧
  (G.2.2.2.2.2 56 0 ≠ none ∧ (va_Z "jdk/internal/util/Preconditions" "SIOOBE_FORMATTER" "Ljava/util/function/BiFunction;" .null (x_A G) U G.2.2.2.1 ∨ va_Z "jdk/internal/util/Preconditions" "SIOOBE_FORMATTER" "Ljava/util/function/BiFunction;" (.ref (G.2.2.2.2.1 56 0)) (x_A G) U G.2.2.2.1))
theorem x_KX_moved {G : XG} {u U : State} (hW : u.WarmedH U.vm) (h : x_KX G u) : x_KX G U := by
  obtain ⟨h1, h2, h3, h4, h5, h6, h7, h8, h9, h10⟩ := h
  refine ⟨fun k i q n z hk hz => ?_, fun k i ci fs hk h55 hz => ?_, fun q hq => ⟨va_Z.moved hW.alike (h3 q hq).1, (h3 q hq).2⟩, fun q hq => ?_, vx_Zq.moved hW.alike h5, vx_Zq.moved hW.alike h6, h7, h8, fun k i c hk hc => ⟨(h9 k i c hk hc).1, fun z => va_Mi.moved hW.alike ((h9 k i c hk hc).2 z)⟩, h10.1, h10.2.imp (va_Z.moved hW.alike) (va_Z.moved hW.alike)⟩
  · obtain ⟨ty, a1, a2⟩ := h1 k i q n z hk hz
    exact ⟨ty, a1, va_T.moved hW.alike a2⟩
  · obtain ⟨a1, a2, a3⟩ := h2 k i ci fs hk h55 hz
    exact ⟨va_O.moved hW.alike a1, a2, fun j o n d v e1 e2 => va_OF.moved hW.alike (a3 j o n d v e1 e2)⟩
  · obtain ⟨a, ha⟩ := h4 q hq
    exact ⟨a, vk_R.warm hW ha⟩
theorem x_hq {G : XG} {U : State} {t : XT} {S : XH} {H : Heap} (hX : x_KX G U) (h : x_R G t S H) : ∀ a, a < G.2.2.2.1.size → ¬ x_A G a → H[a]? = G.2.2.2.1[a]? := fun a ha _ => h.2.2.2.2.1 a (by rw [hX.2.2.2.2.2.2.1]; exact ha)
theorem x_nw_z {G : XG} {t : XT} {S : XH} {H : Heap} (h : x_R G t S H) {v : XV} (hv : x_nw v) (ho : x_ok S v) : xz t v = xz G.2.2.2.2.1 v := by
  rcases v with x | x | r
  · rfl
  · rfl
  · cases r with
    | none => rfl
    | some r => exact congrArg Value.ref ((h.2.2.2.2.2.2 r.1 r.2 hv).2 ho).1
