/-! LEVEL TWO: ints that are small naturals -/
theorem nl {a b : Nat} (h : Nat.ble a b = true) : a ≤ b := Nat.le_of_ble_eq_true h
theorem z_toInt {n : Nat} (h : n < 2147483648) : (Int32.ofNat n).toInt = (n : Int) := Int32.toInt_ofNat_of_lt (by omega)
theorem z_nat {n : Nat} (h : n < 2147483648) : (Int32.ofNat n).toNatClampNeg = n := by
  show (Int32.ofNat n).toInt.toNat = n
  rw [z_toInt h]
  rfl
theorem z_lt {a b : Nat} (ha : a < 2147483648) (hb : b < 2147483648) : Int32.ofNat a < Int32.ofNat b ↔ a < b := by
  rw [Int32.lt_iff_toInt_lt, z_toInt ha, z_toInt hb]
  omega
theorem z_le {a b : Nat} (ha : a < 2147483648) (hb : b < 2147483648) : Int32.ofNat a ≤ Int32.ofNat b ↔ a ≤ b := by
  rw [Int32.le_iff_toInt_le, z_toInt ha, z_toInt hb]
  omega
theorem z_eq {a b : Nat} (ha : a < 2147483648) (hb : b < 2147483648) : Int32.ofNat a = Int32.ofNat b ↔ a = b := by
  rw [← Int32.toInt_inj, z_toInt ha, z_toInt hb]
  omega
theorem z_neg {n : Nat} (h : n < 2147483648) : ¬ Int32.ofNat n < 0 := by
  rw [Int32.lt_iff_toInt_lt, z_toInt h, show (0 : Int32).toInt = 0 from rfl]
  omega
theorem z_in {k n : Nat} (hk : k < n) (hn : n < 2147483648) : vp_in (Int32.ofNat k) n := by
  unfold vp_in
  rw [z_nat (by omega)]
  rintro (h | h)
  · exact z_neg (by omega) h
  · omega
theorem z_add (a b : Nat) : Int32.ofNat a + Int32.ofNat b = Int32.ofNat (a + b) := (Int32.ofNat_add a b).symm
theorem z_mul (a b : Nat) : Int32.ofNat a * Int32.ofNat b = Int32.ofNat (a * b) := (Int32.ofNat_mul a b).symm
theorem z_suc (a : Nat) : Int32.ofNat a + 1 = Int32.ofNat (a + 1) := (Int32.ofNat_add a 1).symm
theorem z_sub {a b : Nat} (h : b ≤ a) : Int32.ofNat a - Int32.ofNat b = Int32.ofNat (a - b) := by
  have := z_add (a - b) b
  rw [Nat.sub_add_cancel h] at this
  rw [← this, Int32.add_sub_cancel]
theorem z_pre {a : Nat} : Int32.ofNat (a + 1) - 1 = Int32.ofNat a := z_sub (b := 1) (by omega)
/-- an int that isn't negative is a small natural -/
theorem z_of {x : Int32} (h : 0 ≤ x) : ∃ n : Nat, n < 2147483648 ∧ x = Int32.ofNat n := by
  have h1 : (0 : Int) ≤ x.toInt := by
    have := Int32.le_iff_toInt_le.mp h
    exact this
  have h2 := Int32.toInt_lt x
  refine ⟨x.toInt.toNat, by omega, ?_⟩
  rw [← Int32.toInt_inj, z_toInt (by omega)]
  omega
/-! the model's heap: the object at (15, 0), its arrays of ints at (16, field's number), its row at (17, 0) -/
def ml (n : Nat) : Nat := if n ≤ 5 then 8800 else if n ≤ 8 then 5 else if n ≤ 12 then 4 else if n = 13 then 16 else if n ≤ 17 then 4 else if n = 18 then 200 else if n ≤ 24 then 3000 else 4
def mfl (g : Nat → Nat → Int32) : List XV := [xv_r 16 0, xv_r 16 1, xv_r 16 2, xv_r 16 3, xv_r 16 4, xv_r 16 5, xv_r 16 6, xv_r 16 7, xv_r 16 8, xv_i (g 9 0), xv_r 16 10, xv_r 16 11, xv_r 16 12, xv_r 16 13, xv_r 16 14, xv_r 16 15, xv_r 16 16, xv_r 16 17, xv_r 16 18, xv_r 16 19, xv_r 16 20, xv_r 16 21, xv_r 16 22, xv_r 16 23, xv_r 16 24, xv_i (g 25 0), xv_i (g 26 0), xv_r 16 27, xv_r 16 28, xv_r 17 0, xv_i (g 30 0)]
def ma (n : Nat) : Bool := n < 29 && !(n == 9) && !(n == 25) && !(n == 26)
def RM (g : Nat → Nat → Int32) (S : XH) : Prop := S 15 0 = some (.inl (10, mfl g)) ∧ (∀ n, ma n = true → S 16 n = some (.inr (0, ml n, .inl (g n)))) ∧ S 17 0 = some (.inr (2, 64, .inl (g 29)))
def gs (g : Nat → Nat → Int32) (n : Nat) (f : Nat → Int32) : Nat → Nat → Int32 := fun k => if k = n then f else g k
theorem gs_self (g : Nat → Nat → Int32) (n : Nat) (f : Nat → Int32) : gs g n f n = f := if_pos rfl
theorem gs_ne {g : Nat → Nat → Int32} {n k : Nat} {f : Nat → Int32} (h : k ≠ n) : gs g n f k = g k := if_neg h
theorem RM.ast {g : Nat → Nat → Int32} {S : XH} (h : RM g S) {n : Nat} (hn : ma n = true) (f : Nat → Int32) : RM (gs g n f) (x_up S 16 n (.inr (0, ml n, .inl f))) := by
  obtain ⟨h1, h2, h3⟩ := h
  have hb : n ≠ 9 ∧ n ≠ 25 ∧ n ≠ 26 ∧ n < 29 := by
    simp [ma] at hn
    omega
  refine ⟨?_, fun k hk => ?_, ?_⟩
  · rw [x_up_ne (by omega), h1]
    unfold mfl
    rw [gs_ne (by omega), gs_ne (by omega), gs_ne (by omega), gs_ne (by omega)]
  · by_cases e : k = n
    · subst e
      rw [x_up_self, gs_self]
    · rw [x_up_ne (by omega), gs_ne e]
      exact h2 k hk
  · rw [x_up_ne (by omega), gs_ne (by omega)]
    exact h3
theorem RM.put {g : Nat → Nat → Int32} {S : XH} (h : RM g S) {n : Nat} (v : Int32) (hn : n = 9 ∨ n = 25 ∨ n = 26 ∨ n = 30) : RM (gs g n (upd (g n) 0 v)) (x_up S 15 0 (.inl (10, (mfl g).set n (xv_i v)))) := by
  obtain ⟨h1, h2, h3⟩ := h
  refine ⟨?_, fun k hk => ?_, ?_⟩
  · rw [x_up_self]
    rcases hn with rfl | rfl | rfl | rfl <;> rfl
  · have : k ≠ n := by
      simp [ma] at hk
      omega
    rw [x_up_ne (by omega), gs_ne this]
    exact h2 k hk
  · rw [x_up_ne (by omega), gs_ne (by omega)]
    exact h3
theorem RM.keep {g : Nat → Nat → Int32} {S S' : XH} (h : RM g S) (h5 : S' 15 = S 15) (h6 : S' 16 = S 16) (h7 : S' 17 = S 17) : RM g S' := by
  unfold RM
  rw [h5, h6, h7]
  exact h
/-- what ends well does its next step well; so a run of any length may be left again -/
theorem x_go.un {b : XB} {P : XP} (hb : x_bmn b) {pc : Nat} {L : List (Option XV)} {st : List XV} {S : XH} {u w : Nat} (h : x_go b P pc L st S u w) : ∃ I, x_find b pc = some I ∧ I (x_go b P) P pc L st S u w := by
  refine h (fun pc L st S u w => ∃ I, x_find b pc = some I ∧ I (x_go b P) P pc L st S u w) fun pc L st S u w q => ?_
  obtain ⟨I, hI, k⟩ := q
  refine ⟨I, hI, hb _ (x_find_mem hI) _ (x_go b P) P P _ _ _ _ _ _ (fun _ _ _ _ _ _ q => ?_) (fun _ _ q => q) k⟩
  obtain ⟨J, hJ, z⟩ := q
  exact x_go.step hb hJ z
theorem x_go.back {b : XB} {P : XP} (hb : x_bmn b) {n : Nat} {pc : Nat} {L : List (Option XV)} {st : List XV} {S : XH} {u w : Nat} (h : x_go b P pc L st S u w) : x_run b P (x_go b P) n pc L st S u w := by
  induction n generalizing pc L st S u w with
  | zero => exact h
  | succ n ih =>
    obtain ⟨I, hI, k⟩ := x_go.un hb h
    unfold x_run
    rw [hI]
    exact hb _ (x_find_mem hI) (x_go b P) (x_run b P (x_go b P) n) P P _ _ _ _ _ _ (fun _ _ _ _ _ _ q => ih q) (fun _ _ q => q) k
