/-! the class's calls -/
def CM (d : DS) (q : Nat → Nat → Int32) (s : Nat → Nat) (ls : Nat → List R6) (m : Nat) : Prop := s m < 4 ∧ (d.1 10 m ≠ 0 → d.1 10 m = Int32.ofNat (s m + 1) ∧ q 3 m = dlast d m ∧ ls (6 + m) = voidsOf (d.2 m) (Int32.ofNat m) ∧ (d.1 10 m = 4 → q 4 m = amtOf (d.2 m) (Int32.ofNat m) (dlast d m)))
def CK (d : DS) (q : Nat → Nat → Int32) : Prop := ∃ bk, bk ≤ (d.2 4).length ∧ q 0 0 = Int32.ofNat bk ∧ ∀ a, a < 200 → q 13 a = balC ((d.2 4).take bk) (Int32.ofNat a)
def CT (d : DS) (q : Nat → Nat → Int32) : Prop := q 0 1 = cwrong (d.2 5)
def CA (d : DS) (q : Nat → Nat → Int32) (s : Nat → Nat) (ls : Nat → List R6) : Prop := CB d q ls ∧ (∀ m, m < 4 → CM d q s ls m) ∧ CK d q ∧ CT d q
/-- the lists' room is bounded; that of the MESSAGES is a function of their number -/
def capok (d : DS) (cp : Nat → Nat) : Prop := (∀ j, j < 5 → cp j ≤ 1800) ∧ (∀ j, 6 ≤ j → j < 10 → cp j ≤ 800) ∧ cp 5 = nc (d.2 5).length
/-- the class's heap holds the state -/
def KS (d : DS) (S : XH) : Prop := ∃ q s cp ls, RC q s cp ls S ∧ CA d q s ls ∧ capok d cp ∧ RF S
def kN (d : DS) (S : XH) (Q : XH → Prop) : Prop := ∀ S', KS d S' → fc S S' → Q S'
def kT (d : DS) (S : XH) (ci : Nat) (P : XP) : Prop := ∀ S' nx, KS d S' → fc S S' → S' 12 nx = some (.inl (ci, [])) → P (.inr (12, nx)) S'
theorem kN.tr {d : DS} {S S1 : XH} {Q : XH → Prop} (h : kN d S Q) (hf : fc S S1) : kN d S1 Q := fun S' a b => h S' a (hf.tr b)
theorem kT.tr {d : DS} {S S1 : XH} {ci : Nat} {P : XP} (h : kT d S ci P) (hf : fc S S1) : kT d S1 ci P := fun S' nx a b => h S' nx a (hf.tr b)
theorem KS.exc {d : DS} {S : XH} (h : KS d S) {nx : Nat} (hn : S 12 nx = none) (c : XC) : KS d (x_up S 12 nx c) := by
  obtain ⟨q, s, cp, ls, h1, h2, h3, h4⟩ := h
  exact ⟨q, s, cp, ls, h1.exc hn c, h2, h3, h4.up⟩
theorem KS.rf {d : DS} {S : XH} (h : KS d S) : RF S := by
  obtain ⟨q, s, cp, ls, h1, h2, h3, h4⟩ := h
  exact h4
theorem kT.use {d : DS} {S : XH} {ci : Nat} {P : XP} (h : kT d S ci P) (hK : KS d S) {nx : Nat} (hn : S 12 nx = none) : P (.inr (12, nx)) (x_up S 12 nx (.inl (ci, []))) :=
  h _ nx (hK.exc hn _) (fc.rf.up (Or.inl (by decide))) (x_up_self _ _ _ _)
section CC
variable {q : Nat → Nat → Int32} {s cp : Nat → Nat} {ls : Nat → List R6} {S : XH} {P : XP} {d : DS}
theorem c_allow1 {mc ms : Nat} (hP : P (.inl none) S) : Y_C_allow mc ms [xv_i 1] S P := by
  refine x_go.run mn_C_allow 5 ?_
  exact ⟨fun _ => hP, fun c => (c (by decide)).elim⟩
theorem c_allow0 {mc ms : Nat} (hF : RF S) (h1 : 1 ≤ mc) (h2 : 6 ≤ ms) (hP : ∀ nx, S 12 nx = none → P (.inr (12, nx)) (x_up S 12 nx (.inl (11, [])))) : Y_C_allow mc ms [xv_i 0] S P := by
  obtain ⟨n, -, -, hn⟩ := hF.fr
  refine x_go.run mn_C_allow 5 ?_
  exact ⟨fun c => (c rfl).elim, fun _ => ⟨nl rfl, h1, h2, 12, n, nl rfl, hn, hP n hn⟩⟩
theorem c_demand1 {mc ms : Nat} (hP : P (.inl none) S) : Y_C_demand mc ms [xv_i 1] S P := by
  refine x_go.run mn_C_demand 5 ?_
  exact ⟨fun _ => hP, fun c => (c (by decide)).elim⟩
theorem c_demand0 {mc ms : Nat} (hF : RF S) (h1 : 1 ≤ mc) (h2 : 6 ≤ ms) (hP : ∀ nx, S 12 nx = none → P (.inr (12, nx)) (x_up S 12 nx (.inl (12, [])))) : Y_C_demand mc ms [xv_i 0] S P := by
  obtain ⟨n, -, -, hn⟩ := hF.fr
  refine x_go.run mn_C_demand 5 ?_
  exact ⟨fun c => (c rfl).elim, fun _ => ⟨nl rfl, h1, h2, 12, n, nl rfl, hn, hP n hn⟩⟩
theorem c_machineAt {m : Int32} (hR : RC q s cp ls S) (hF : RF S) (hb : ¬ (0 ≤ m ∧ m ≤ 3) → ∀ nx, S 12 nx = none → P (.inr (12, nx)) (x_up S 12 nx (.inl (11, [])))) (ho : ∀ M, M < 4 → m = Int32.ofNat M → P (.inl (some (xv_r 3 M))) S) : Y_C_machineAt 1 6 [xv_r 0 0, xv_i m] S P := by
  have i34 : ∀ x : Int32, (4 ≤ x) ↔ ¬ x ≤ 3 := fun x => by
    rw [Int32.le_iff_toInt_le, Int32.le_iff_toInt_le]
    show (4 : Int) ≤ x.toInt ↔ ¬ x.toInt ≤ 3
    omega
  have bad : ¬ (0 ≤ m ∧ m ≤ 3) → x_go b_C_machineAt P 13 [some (xv_r 0 0), some (xv_i m)] [] S 1 6 := fun h => by
    refine x_go.run mn_C_machineAt 3 ?_
    exact ⟨nl rfl, rfl, nl rfl, 1, 6, nl rfl, nl rfl, c_allow0 hF (nl rfl) (nl rfl) fun nx hn => hb h nx hn⟩
  refine x_go.run mn_C_machineAt 20 ?_
  refine ⟨fun c => x_go.back mn_C_machineAt (bad fun z => Int32.not_lt.mpr z.1 c), fun c => ?_⟩
  refine ⟨fun c' => x_go.back mn_C_machineAt (bad fun z => (i34 m).mp c' z.2), fun c' => ?_⟩
  have h1 : 0 ≤ m := Int32.not_lt.mp c
  have h2 : m ≤ 3 := Classical.not_not.mp fun z => c' ((i34 m).mpr z)
  obtain ⟨M, hM, rfl⟩ := in_nat 3 (by decide) h1 h2
  obtain ⟨f, hf, hf'⟩ := hR.2.2.2.2.2.2.2.1
  refine ⟨nl rfl, rfl, nl rfl, 0, 0, Nat.zero_le _, Nat.zero_le _, c_allow1 ?_⟩
  refine ⟨nl rfl, _, _, hR.1, rfl, ?_⟩
  refine ⟨nl rfl, _, _, hf, z_in (by omega) (by decide), ?_⟩
  rw [z_nat (by omega), hf' M (by omega)]
  exact ho M (by omega) rfl
theorem c_isAccount {a : Int32} (h1 : 0 ≤ a → a ≤ 199 → P (.inl (some (xv_i 1))) S) (h0 : ¬ (0 ≤ a ∧ a ≤ 199) → P (.inl (some (xv_i 0))) S) : Y_C_isAccount 0 0 [xv_i a] S P := by
  have i34 : ∀ x : Int32, (200 ≤ x) ↔ ¬ x ≤ 199 := fun x => by
    rw [Int32.le_iff_toInt_le, Int32.le_iff_toInt_le]
    show (200 : Int) ≤ x.toInt ↔ ¬ x.toInt ≤ 199
    omega
  refine x_go.run mn_C_isAccount 12 ?_
  refine ⟨fun c => ⟨Or.inl rfl, h0 fun z => Int32.not_lt.mpr z.1 c⟩, fun c => ⟨fun c' => ⟨Or.inl rfl, h0 fun z => (i34 a).mp c' z.2⟩, fun c' => ⟨Or.inr rfl, h1 (Int32.not_lt.mp c) (Classical.not_not.mp fun z => c' ((i34 a).mpr z))⟩⟩⟩
theorem c_isCassette {a : Int32} (h1 : 0 ≤ a → a ≤ 3 → P (.inl (some (xv_i 1))) S) (h0 : ¬ (0 ≤ a ∧ a ≤ 3) → P (.inl (some (xv_i 0))) S) : Y_C_isCassette 0 0 [xv_i a] S P := by
  have i34 : ∀ x : Int32, (4 ≤ x) ↔ ¬ x ≤ 3 := fun x => by
    rw [Int32.le_iff_toInt_le, Int32.le_iff_toInt_le]
    show (4 : Int) ≤ x.toInt ↔ ¬ x.toInt ≤ 3
    omega
  refine x_go.run mn_C_isCassette 12 ?_
  refine ⟨fun c => ⟨Or.inl rfl, h0 fun z => Int32.not_lt.mpr z.1 c⟩, fun c => ⟨fun c' => ⟨Or.inl rfl, h0 fun z => (i34 a).mp c' z.2⟩, fun c' => ⟨Or.inr rfl, h1 (Int32.not_lt.mp c) (Classical.not_not.mp fun z => c' ((i34 a).mpr z))⟩⟩⟩
end CC
