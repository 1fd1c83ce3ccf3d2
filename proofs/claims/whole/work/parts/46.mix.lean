/-! the MIX -/
abbrev Q4 : Type := Nat × Nat × Nat × Nat
def q4t (x : Q4) : Nat := x.1 + x.2.1 + x.2.2.1 + x.2.2.2
def Feas (n : Nat → Nat) (v : Nat) (x : Q4) : Prop := x.1 ≤ n 0 ∧ x.2.1 ≤ n 1 ∧ x.2.2.1 ≤ n 2 ∧ x.2.2.2 ≤ n 3 ∧ 5 * x.1 + 10 * x.2.1 + 20 * x.2.2.1 + 50 * x.2.2.2 = v ∧ q4t x ≤ 40
def q4gt (x y : Q4) : Prop := y.2.2.2 < x.2.2.2 ∨ (y.2.2.2 = x.2.2.2 ∧ (y.2.2.1 < x.2.2.1 ∨ (y.2.2.1 = x.2.2.1 ∧ y.2.1 < x.2.1)))
def q4b (x y : Q4) : Prop := q4t x < q4t y ∨ (q4t x = q4t y ∧ q4gt x y)
/-- the fewest notes; of as few, more fifties, then more twenties, then more tens -/
def IsMix (n : Nat → Nat) (v : Nat) (x : Q4) : Prop := Feas n v x ∧ ∀ y, Feas n v y → y = x ∨ q4b x y
theorem IsMix.uniq {n : Nat → Nat} {v : Nat} {x y : Q4} (hx : IsMix n v x) (hy : IsMix n v y) : x = y := by
  rcases hx.2 y hy.1 with h | h
  · exact h.symm
  · rcases hy.2 x hx.1 with h' | h'
    · exact h'
    · exfalso
      unfold q4b q4gt at h h'
      omega
/-- of all that was seen (V) the best is best, with F notes; F is 41: nothing was found -/
def JS (n : Nat → Nat) (v : Nat) (V : Q4 → Prop) (F : Nat) (best : Q4) : Prop := (F = 41 ∧ ∀ y, Feas n v y → V y → False) ∨ (Feas n v best ∧ V best ∧ F = q4t best ∧ ∀ y, Feas n v y → V y → y = best ∨ q4b best y)
theorem JS.mono {n : Nat → Nat} {v : Nat} {V V' : Q4 → Prop} {F : Nat} {best : Q4} (h : JS n v V F best) (hV : ∀ y, Feas n v y → (V y ↔ V' y)) : JS n v V' F best := by
  rcases h with ⟨h1, h2⟩ | ⟨h1, h2, h3, h4⟩
  · exact Or.inl ⟨h1, fun y hy hv => h2 y hy ((hV y hy).mpr hv)⟩
  · exact Or.inr ⟨h1, (hV _ h1).mp h2, h3, fun y hy hv => h4 y hy ((hV y hy).mpr hv)⟩
theorem JS.le {n : Nat → Nat} {v : Nat} {V : Q4 → Prop} {F : Nat} {best : Q4} (h : JS n v V F best) : F ≤ 41 := by
  rcases h with ⟨h1, h2⟩ | ⟨h1, h2, h3, h4⟩
  · omega
  · have := h1.2.2.2.2.2
    omega
theorem JS.end {n : Nat → Nat} {v : Nat} {V : Q4 → Prop} {F : Nat} {best : Q4} (h : JS n v V F best) (hV : ∀ y, Feas n v y → V y) : (F = 41 ∧ ∀ y, ¬ Feas n v y) ∨ (F ≤ 40 ∧ IsMix n v best) := by
  rcases h with ⟨h1, h2⟩ | ⟨h1, h2, h3, h4⟩
  · exact Or.inl ⟨h1, fun y hy => h2 y hy (hV y hy)⟩
  · exact Or.inr ⟨by rw [h3]; exact h1.2.2.2.2.2, h1, fun y hy => h4 y hy (hV y hy)⟩
/-- what the loop over tens has seen -/
def VB (nd nc nb : Nat) (y : Q4) : Prop := nd < y.2.2.2 ∨ (y.2.2.2 = nd ∧ (nc < y.2.2.1 ∨ (y.2.2.1 = nc ∧ nb ≤ y.2.1)))
theorem JS.skip {n : Nat → Nat} {v nd nc nb F : Nat} {best : Q4} (h : JS n v (VB nd nc (nb + 1)) F best) (hs : ∀ a, Feas n v (a, nb, nc, nd) → F ≤ a + nb + nc + nd) : JS n v (VB nd nc nb) F best := by
  have key : ∀ y : Q4, VB nd nc nb y → VB nd nc (nb + 1) y ∨ y = (y.1, nb, nc, nd) := by
    rintro ⟨a, b, c, d⟩ hy
    unfold VB at hy ⊢
    simp only [Prod.mk.injEq, true_and] at hy ⊢
    omega
  rcases h with ⟨h1, h2⟩ | ⟨h1, h2, h3, h4⟩
  · refine Or.inl ⟨h1, fun y hy hv => ?_⟩
    rcases key y hv with q | q
    · exact h2 y hy q
    · rw [q] at hy
      have := hs _ hy
      have := hy.2.2.2.2.2
      unfold q4t at this
      dsimp only at this
      omega
  · refine Or.inr ⟨h1, ?_, h3, fun y hy hv => ?_⟩
    · unfold VB at h2 ⊢
      omega
    · rcases key y hv with q | q
      · exact h4 y hy q
      · right
        rw [q] at hy ⊢
        have := hs _ hy
        unfold q4b q4gt
        unfold VB at h2
        have e : q4t (y.1, nb, nc, nd) = y.1 + nb + nc + nd := rfl
        rw [e]
        dsimp only
        omega
theorem JS.take {n : Nat → Nat} {v nd nc nb F a : Nat} {best : Q4} (h : JS n v (VB nd nc (nb + 1)) F best) (hf : Feas n v (a, nb, nc, nd)) (hs : a + nb + nc + nd < F) : JS n v (VB nd nc nb) (a + nb + nc + nd) (a, nb, nc, nd) := by
  refine Or.inr ⟨hf, ?_, rfl, fun y hy hv => ?_⟩
  · unfold VB
    dsimp only
    omega
  · by_cases q : VB nd nc (nb + 1) y
    · right
      left
      rcases h with ⟨h1, h2⟩ | ⟨h1, h2, h3, h4⟩
      · exact (h2 y hy q).elim
      · show a + nb + nc + nd < q4t y
        rcases h4 y hy q with rfl | h
        · omega
        · unfold q4b at h
          omega
    · left
      obtain ⟨a', b', c', d'⟩ := y
      unfold VB at q hv
      have h1 := hf.2.2.2.2.1
      have h2 := hy.2.2.2.2.1
      dsimp only at q hv h1 h2
      have : b' = nb ∧ c' = nc ∧ d' = nd := by omega
      obtain ⟨rfl, rfl, rfl⟩ := this
      have : a' = a := by omega
      rw [this]
/-- ints: small differences, products and quotients -/
theorem z_isub {x y : Int32} {a b : Int} (hx : x.toInt = a) (hy : y.toInt = b) (h1 : -2147483648 ≤ a - b) (h2 : a - b < 2147483648) : (x - y).toInt = a - b := by
  rw [Int32.toInt_sub, hx, hy]
  exact Int.bmod_eq_of_le (by omega) (by omega)
theorem z_iadd {x y : Int32} {a b : Int} (hx : x.toInt = a) (hy : y.toInt = b) (h1 : -2147483648 ≤ a + b) (h2 : a + b < 2147483648) : (x + y).toInt = a + b := by
  rw [Int32.toInt_add, hx, hy]
  exact Int.bmod_eq_of_le (by omega) (by omega)
theorem z_div {a b : Nat} (ha : a < 2147483648) (hb : b < 2147483648) : Int32.ofNat a / Int32.ofNat b = Int32.ofNat (a / b) := by
  rw [← Int32.toInt_inj, Int32.toInt_div, z_toInt ha, z_toInt hb, z_toInt (Nat.lt_of_le_of_lt (Nat.div_le_self _ _) ha)]
  rw [Int.bmod_eq_of_le]
  · rfl
  · show _ ≤ Int.tdiv _ _
    rw [← Int.ofNat_tdiv]
    exact Int.le_trans (by decide) (Int.natCast_nonneg (a / b))
  · rw [← Int.ofNat_tdiv]
    have := Nat.div_le_self a b
    omega
theorem z_dec (x : Int32) : x + (-1) = x - 1 := (Int32.sub_eq_add_neg x 1).symm
theorem z_m1 : Int32.ofNat 0 - 1 < 0 := by decide
theorem z_suc1 (k : Nat) : Int32.ofNat (k + 1) - 1 = Int32.ofNat k := z_pre
