/-- a record: kind, machine, trace, account, value, answer -/
abbrev R6 : Type := Int32 × Int32 × Int32 × Int32 × Int32 × Int32
/-- what the model's three more columns say of it -/
def mrel (e : R6) (a b c : Int32) : Prop := (e.1 = 1 ∨ e.1 = 6 → a = e.2.2.2.1 ∧ b = e.2.2.2.2.1) ∧ (e.1 = 6 → c = e.2.2.2.2.2) ∧ (e.1 = 3 ∨ e.1 = 4 ∨ e.1 = 7 → a = e.2.2.2.2.1)
/-- the room of journal w -/
def jcap (w : Nat) : Nat := if w = 4 then 4000 else 1200
theorem jcap_le {w n : Nat} (hw : w < 5) (h : n ≤ jcap w) : 1200 * w + n ≤ 8800 := by
  unfold jcap at h
  split at h <;> omega
/-- the model's journal w is the list l -/
def JM (g : Nat → Nat → Int32) (w : Nat) (l : List R6) : Prop := g 6 w = Int32.ofNat l.length ∧ l.length ≤ jcap w ∧ ∀ i (h : i < l.length), g 0 (1200 * w + i) = l[i].1 ∧ g 1 (1200 * w + i) = l[i].2.1 ∧ g 2 (1200 * w + i) = l[i].2.2.1 ∧ mrel l[i] (g 3 (1200 * w + i)) (g 4 (1200 * w + i)) (g 5 (1200 * w + i))
def is6 (kind mach tr : Int32) (e : R6) : Prop := e.1 = kind ∧ e.2.1 = mach ∧ e.2.2.1 = tr
theorem r_at {S : XH} {P : XP} {w : Nat} (hP : P (.inl (some (xv_i (Int32.ofNat (1200 * w))))) S) : Y_R_at 0 0 [xv_i (Int32.ofNat w)] S P := by
  refine x_go.run mn_R_at 4 ?_
  rw [← z_mul] at hP
  exact hP
/-- the loops over a journal: their head's test -/
theorem jm_head {w i n : Nat} (h : 1200 * w + n ≤ 8800) (hi : i ≤ n) : (Int32.ofNat (1200 * w) + Int32.ofNat n ≤ Int32.ofNat (1200 * w + i)) ↔ i = n := by
  rw [z_add, z_le (by omega) (by omega)]
  omega
theorem r_find {g : Nat → Nat → Int32} {S : XH} {P : XP} {w : Nat} {l : List R6} {kind mach tr : Int32} (hR : RM g S) (hw : w < 5) (hJ : JM g w l)
    (h0 : (∀ i (h : i < l.length), ¬ is6 kind mach tr l[i]) → P (.inl (some (xv_i (-1)))) S)
    (h1 : ∀ i (h : i < l.length), is6 kind mach tr l[i] → (∀ j (hj : j < i), ¬ is6 kind mach tr l[j]) → P (.inl (some (xv_i (Int32.ofNat (1200 * w + i))))) S) :
    Y_R_find 0 0 [xv_r 15 0, xv_i (Int32.ofNat w), xv_i kind, xv_i mach, xv_i tr] S P := by
  obtain ⟨j1, j2, j3⟩ := hJ
  have j2 := jcap_le hw j2
  have loop : ∀ n i, l.length - i = n → i ≤ l.length → (∀ j (hj : j < i) (h : j < l.length), ¬ is6 kind mach tr l[j]) →
      x_go b_R_find P 6 [some (xv_r 15 0), some (xv_i (Int32.ofNat w)), some (xv_i kind), some (xv_i mach), some (xv_i tr), some (xv_i (Int32.ofNat (1200 * w + i)))] [] S 0 0 := by
    intro n
    induction n with
    | zero =>
      intro i hn hi hno
      have e : i = l.length := by omega
      refine x_go.run mn_R_find 40 ?_
      refine ⟨nl rfl, rfl, nl rfl, 0, 0, Nat.zero_le _, Nat.zero_le _, r_at ?_⟩
      refine ⟨nl rfl, _, _, hR.1, rfl, ?_⟩
      refine ⟨_, _, hR.2.1 6 rfl, z_in (by exact hw) (by decide), ?_⟩
      rw [z_nat (by omega)]
      rw [j1]
      refine ⟨fun c => ?_, fun c => (c ((jm_head j2 hi).mpr e)).elim⟩
      exact h0 fun j hj => hno j (by omega) hj
    | succ n ih =>
      intro i hn hi hno
      have hi' : i < l.length := by omega
      obtain ⟨q1, q2, q3, -⟩ := j3 i hi'
      have hnx : ¬ is6 kind mach tr l[i] → x_go b_R_find P 59 [some (xv_r 15 0), some (xv_i (Int32.ofNat w)), some (xv_i kind), some (xv_i mach), some (xv_i tr), some (xv_i (Int32.ofNat (1200 * w + i)))] [] S 0 0 := by
        intro hne
        refine x_go.run mn_R_find 2 ?_
        show x_go b_R_find P 6 [some (xv_r 15 0), some (xv_i (Int32.ofNat w)), some (xv_i kind), some (xv_i mach), some (xv_i tr), some (xv_i (Int32.ofNat (1200 * w + i) + 1))] [] S 0 0
        rw [z_suc]
        refine ih (i + 1) (by omega) (by omega) fun j hj h => ?_
        rcases Nat.lt_succ_iff_lt_or_eq.mp hj with q | rfl
        · exact hno j q h
        · exact hne
      refine x_go.run mn_R_find 40 ?_
      refine ⟨nl rfl, rfl, nl rfl, 0, 0, Nat.zero_le _, Nat.zero_le _, r_at ?_⟩
      refine ⟨nl rfl, _, _, hR.1, rfl, ?_⟩
      refine ⟨_, _, hR.2.1 6 rfl, z_in (by exact hw) (by decide), ?_⟩
      rw [z_nat (by omega)]
      rw [j1]
      refine ⟨fun c => absurd ((jm_head j2 hi).mp c) (by omega), fun _ => ?_⟩
      refine ⟨nl rfl, _, _, hR.1, rfl, ?_⟩
      refine ⟨_, _, hR.2.1 0 rfl, z_in (by show _ < 8800; omega) (by decide), ?_⟩
      rw [z_nat (by omega)]
      rw [q1]
      refine ⟨fun c => x_go.back mn_R_find (hnx fun q => c q.1), fun c1 => ?_⟩
      refine ⟨nl rfl, _, _, hR.1, rfl, ?_⟩
      refine ⟨_, _, hR.2.1 1 rfl, z_in (by show _ < 8800; omega) (by decide), ?_⟩
      rw [z_nat (by omega)]
      rw [q2]
      refine ⟨fun c => x_go.back mn_R_find (hnx fun q => c q.2.1), fun c2 => ?_⟩
      refine ⟨nl rfl, _, _, hR.1, rfl, ?_⟩
      refine ⟨_, _, hR.2.1 2 rfl, z_in (by show _ < 8800; omega) (by decide), ?_⟩
      rw [z_nat (by omega)]
      rw [q3]
      refine ⟨fun c => x_go.back mn_R_find (hnx fun q => c q.2.2), fun c3 => ?_⟩
      exact h1 i hi' ⟨Classical.not_not.mp c1, Classical.not_not.mp c2, Classical.not_not.mp c3⟩ (fun j hj => hno j hj (by omega))
  refine x_go.run mn_R_find 3 ?_
  refine ⟨nl rfl, rfl, nl rfl, 0, 0, Nat.zero_le _, Nat.zero_le _, r_at ?_⟩
  exact loop _ 0 rfl (Nat.zero_le _) (fun j hj => by omega)
