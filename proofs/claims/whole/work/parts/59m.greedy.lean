/-! the class's MIX: for every number of fifties the most of each in turn -/
theorem greedy_in {n : Nat → Nat} {v f c b r : Nat} (hf : 50 * f ≤ v) (hc : c = min (n 2) ((v - 50 * f) / 20)) (hb : b = min (n 1) ((v - 50 * f - 20 * c) / 10)) (hr : r = v - 50 * f - 20 * c - 10 * b) {y : Q4} (hy : y.1 ≤ n 0) (hy1 : y.2.1 ≤ n 1) (hy2 : y.2.2.1 ≤ n 2) (hd : y.2.2.2 = f) (hs : 5 * y.1 + 10 * y.2.1 + 20 * y.2.2.1 + 50 * y.2.2.2 = v) :
    r % 5 = 0 ∧ r / 5 ≤ n 0 ∧ (y = (r / 5, b, c, f) ∨ r / 5 + b + c + f < q4t y) := by
  obtain ⟨a', b', c', d'⟩ := y
  change d' = f at hd
  change a' ≤ n 0 at hy
  change b' ≤ n 1 at hy1
  change c' ≤ n 2 at hy2
  change 5 * a' + 10 * b' + 20 * c' + 50 * d' = v at hs
  subst hd
  have hR : v - 50 * d' = 5 * a' + 10 * b' + 20 * c' := by omega
  rw [hR] at hc hb hr
  have hcc : c' ≤ c := by
    rw [hc]
    exact Nat.le_min.mpr ⟨hy2, by omega⟩
  have hc20 : 20 * c ≤ 5 * a' + 10 * b' + 20 * c' := by
    have : c ≤ (5 * a' + 10 * b' + 20 * c') / 20 := by
      rw [hc]
      exact Nat.min_le_right _ _
    omega
  have hb10 : b ≤ (5 * a' + 10 * b' + 20 * c' - 20 * c) / 10 := by
    rw [hb]
    exact Nat.min_le_right _ _
  have hbb : b = n 1 ∨ b = (5 * a' + 10 * b' + 20 * c' - 20 * c) / 10 := by
    rw [hb]
    omega
  have hb1 : b ≤ n 1 := by
    rw [hb]
    exact Nat.min_le_left _ _
  have haa : r / 5 ≤ a' := by
    rcases hbb with q | q <;> omega
  refine ⟨by omega, by omega, ?_⟩
  unfold q4t
  show (a', b', c', d') = _ ∨ r / 5 + b + c + d' < a' + b' + c' + d'
  by_cases e : c' = c ∧ a' = r / 5
  · left
    obtain ⟨e1, e2⟩ := e
    rw [e1, e2, show b' = b by omega]
  · right
    omega
/-- all with more than f fifties have been looked at -/
def JF (n : Nat → Nat) (v : Nat) (f : Nat) (F : Nat) (best : Q4) : Prop := JS n v (fun y => f ≤ y.2.2.2) F best
theorem JF.first {n : Nat → Nat} {v : Nat} {best : Q4} : JF n v (min (n 3) (v / 50) + 1) 41 best := by
  refine Or.inl ⟨rfl, fun y hy hv => ?_⟩
  obtain ⟨-, -, -, h3, h4, -⟩ := hy
  change _ ≤ y.2.2.2 at hv
  have : y.2.2.2 ≤ min (n 3) (v / 50) := Nat.le_min.mpr ⟨h3, by omega⟩
  omega
theorem JF.take {n : Nat → Nat} {v f c b r F : Nat} {best : Q4} (h : JF n v (f + 1) F best) (hF : F ≤ 41) (hf : 50 * f ≤ v) (hf' : f ≤ n 3) (hc : c = min (n 2) ((v - 50 * f) / 20)) (hb : b = min (n 1) ((v - 50 * f - 20 * c) / 10)) (hr : r = v - 50 * f - 20 * c - 10 * b) (h5 : r % 5 = 0) (h0 : r / 5 ≤ n 0) (ht : f + c + b + r / 5 < F) : JF n v f (f + c + b + r / 5) (r / 5, b, c, f) := by
  have hq : q4t (r / 5, b, c, f) = f + c + b + r / 5 := by
    show r / 5 + b + c + f = _
    omega
  have hcr : 20 * c ≤ v - 50 * f := by
    have : c ≤ (v - 50 * f) / 20 := by
      rw [hc]
      exact Nat.min_le_right _ _
    omega
  have hbr : 10 * b ≤ v - 50 * f - 20 * c := by
    have : b ≤ (v - 50 * f - 20 * c) / 10 := by
      rw [hb]
      exact Nat.min_le_right _ _
    omega
  refine Or.inr ⟨⟨h0, by rw [hb]; exact Nat.min_le_left _ _, by rw [hc]; exact Nat.min_le_left _ _, hf', ?_, by omega⟩, Nat.le_refl _, hq.symm, fun y hy hv => ?_⟩
  · show 5 * (r / 5) + 10 * b + 20 * c + 50 * f = v
    omega
  · change f ≤ y.2.2.2 at hv
    by_cases e : y.2.2.2 = f
    · obtain ⟨y0, y1, y2, y3, y4, -⟩ := hy
      obtain ⟨-, -, q⟩ := greedy_in hf hc hb hr y0 y1 y2 e y4
      rcases q with q | q
      · exact Or.inl q
      · exact Or.inr (Or.inl (by rw [hq]; omega))
    · rcases h with ⟨h1, h2⟩ | ⟨h1, h2, h3, h4⟩
      · exact (h2 y hy (by show f + 1 ≤ _; omega)).elim
      · right
        left
        rw [hq]
        rcases h4 y hy (by show f + 1 ≤ _; omega) with q | q
        · rw [q, ← h3]
          exact ht
        · have : q4t best ≤ q4t y := by
            rcases q with q | q <;> omega
          omega
theorem JF.pass {n : Nat → Nat} {v f c b r F : Nat} {best : Q4} (h : JF n v (f + 1) F best) (hF : F ≤ 41) (hf : 50 * f ≤ v) (hc : c = min (n 2) ((v - 50 * f) / 20)) (hb : b = min (n 1) ((v - 50 * f - 20 * c) / 10)) (hr : r = v - 50 * f - 20 * c - 10 * b) (hn : ¬ (r % 5 = 0 ∧ r / 5 ≤ n 0 ∧ f + c + b + r / 5 < F)) : JF n v f F best := by
  have key : ∀ y, Feas n v y → y.2.2.2 = f → F ≤ q4t y := by
    intro y hy e
    obtain ⟨y0, y1, y2, y3, y4, -⟩ := hy
    obtain ⟨g1, g2, q⟩ := greedy_in hf hc hb hr y0 y1 y2 e y4
    have : F ≤ f + c + b + r / 5 := Nat.le_of_not_lt fun z => hn ⟨g1, g2, z⟩
    rcases q with q | q
    · rw [q]
      show F ≤ r / 5 + b + c + f
      omega
    · omega
  rcases h with ⟨h1, h2⟩ | ⟨h1, h2, h3, h4⟩
  · refine Or.inl ⟨h1, fun y hy hv => ?_⟩
    change f ≤ y.2.2.2 at hv
    by_cases e : y.2.2.2 = f
    · have := key y hy e
      have := hy.2.2.2.2.2
      omega
    · exact h2 y hy (by show f + 1 ≤ _; omega)
  · change f + 1 ≤ best.2.2.2 at h2
    refine Or.inr ⟨h1, by show f ≤ _; omega, h3, fun y hy hv => ?_⟩
    change f ≤ y.2.2.2 at hv
    by_cases e : y.2.2.2 = f
    · have := key y hy e
      right
      by_cases z : q4t best < q4t y
      · exact Or.inl z
      · exact Or.inr ⟨by omega, Or.inl (by omega)⟩
    · exact h4 y hy (by show f + 1 ≤ _; omega)
theorem JF.last {n : Nat → Nat} {v F : Nat} {best : Q4} (h : JF n v 0 F best) : (F = 41 ∧ ∀ y, ¬ Feas n v y) ∨ IsMix n v best := by
  rcases h with ⟨h1, h2⟩ | ⟨h1, -, -, h4⟩
  · exact Or.inl ⟨h1, fun y hy => h2 y hy (Nat.zero_le _)⟩
  · exact Or.inr ⟨h1, fun y hy => h4 y hy (Nat.zero_le _)⟩
/-! a MIX in one int -/
theorem z_or (x y : Nat) : Int32.ofNat x ||| Int32.ofNat y = Int32.ofNat (x ||| y) := by
  rw [← Int32.toBitVec_inj]
  simp
theorem pk_or {a b c d : Nat} (ha : a ≤ 40) (hb : b ≤ 40) (hc : c ≤ 40) (hd : d ≤ 40) : (((Int32.ofNat d <<< (24 &&& 31)) ||| (Int32.ofNat c <<< (16 &&& 31))) ||| (Int32.ofNat b <<< (8 &&& 31))) ||| Int32.ofNat a = pk (a, b, c, d) := by
  have s24 : ∀ d : Fin 41, Int32.ofNat d.1 <<< (24 &&& 31 : Int32) = Int32.ofNat (2 ^ 24 * d.1) := by decide +kernel
  have s16 : ∀ d : Fin 41, Int32.ofNat d.1 <<< (16 &&& 31 : Int32) = Int32.ofNat (2 ^ 16 * d.1) := by decide +kernel
  have s8 : ∀ d : Fin 41, Int32.ofNat d.1 <<< (8 &&& 31 : Int32) = Int32.ofNat (2 ^ 8 * d.1) := by decide +kernel
  rw [s24 ⟨d, by omega⟩, s16 ⟨c, by omega⟩, s8 ⟨b, by omega⟩, z_or, z_or, z_or]
  show Int32.ofNat _ = Int32.ofNat _
  congr 1
  show ((2 ^ 24 * d ||| 2 ^ 16 * c) ||| 2 ^ 8 * b) ||| a = 16777216 * d + 65536 * c + 256 * b + a
  rw [← Nat.two_pow_add_eq_or_of_lt (i := 24) (by omega) d, show 2 ^ 24 * d + 2 ^ 16 * c = 2 ^ 16 * (256 * d + c) by omega, ← Nat.two_pow_add_eq_or_of_lt (i := 16) (by omega), show 2 ^ 16 * (256 * d + c) + 2 ^ 8 * b = 2 ^ 8 * (65536 * d + 256 * c + b) by omega, ← Nat.two_pow_add_eq_or_of_lt (i := 8) (by omega)]
  all_goals omega
theorem pk_at {a b c d : Nat} (ha : a ≤ 40) (hb : b ≤ 40) (hc : c ≤ 40) (hd : d ≤ 40) {k : Nat} (hk : k < 4) : (pk (a, b, c, d) >>> ((8 * Int32.ofNat k) &&& 31)) &&& 255 = Int32.ofNat (q4c (a, b, c, d) k) := by
  rw [← pk_or ha hb hc hd, Int32.shiftRight_or, Int32.shiftRight_or, Int32.shiftRight_or]
  have dis : ∀ x y : Int32, (x ||| y) &&& 255 = (x &&& 255) ||| (y &&& 255) := by
    intro x y
    rw [← Int32.toBitVec_inj]
    simp [BitVec.and_or_distrib_right]
  rw [dis, dis, dis]
  have s24 : ∀ d : Fin 41, ∀ k : Fin 4, ((Int32.ofNat d.1 <<< (24 &&& 31 : Int32)) >>> ((8 * Int32.ofNat k.1) &&& 31)) &&& 255 = if k.1 = 3 then Int32.ofNat d.1 else 0 := by decide +kernel
  have s16 : ∀ d : Fin 41, ∀ k : Fin 4, ((Int32.ofNat d.1 <<< (16 &&& 31 : Int32)) >>> ((8 * Int32.ofNat k.1) &&& 31)) &&& 255 = if k.1 = 2 then Int32.ofNat d.1 else 0 := by decide +kernel
  have s8 : ∀ d : Fin 41, ∀ k : Fin 4, ((Int32.ofNat d.1 <<< (8 &&& 31 : Int32)) >>> ((8 * Int32.ofNat k.1) &&& 31)) &&& 255 = if k.1 = 1 then Int32.ofNat d.1 else 0 := by decide +kernel
  have s0 : ∀ d : Fin 41, ∀ k : Fin 4, (Int32.ofNat d.1 >>> ((8 * Int32.ofNat k.1) &&& 31)) &&& 255 = if k.1 = 0 then Int32.ofNat d.1 else 0 := by decide +kernel
  rw [s24 ⟨d, by omega⟩ ⟨k, hk⟩, s16 ⟨c, by omega⟩ ⟨k, hk⟩, s8 ⟨b, by omega⟩ ⟨k, hk⟩, s0 ⟨a, by omega⟩ ⟨k, hk⟩]
  rcases (show k = 0 ∨ k = 1 ∨ k = 2 ∨ k = 3 by omega) with rfl | rfl | rfl | rfl <;> simp [q4c]
