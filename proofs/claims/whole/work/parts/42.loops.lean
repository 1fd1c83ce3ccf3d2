theorem r_in {S : XH} {P : XP} {v a b : Int32} (h1 : a ≤ v → v ≤ b → P (.inl (some (xv_i 1))) S) (h0 : ¬ (a ≤ v ∧ v ≤ b) → P (.inl (some (xv_i 0))) S) : Y_R_in 0 0 [xv_i v, xv_i a, xv_i b] S P := by
  refine x_go.run mn_R_in 20 ?_
  refine ⟨fun c => ⟨Or.inl rfl, h0 fun q => ?_⟩, fun c => ⟨fun c' => ⟨Or.inl rfl, h0 fun q => ?_⟩, fun c' => ⟨Or.inr rfl, h1 ?_ ?_⟩⟩⟩
  · exact Int32.not_lt.mpr q.1 c
  · exact Int32.not_lt.mpr q.2 c'
  · exact Int32.not_lt.mp c
  · exact Int32.not_lt.mp c'
theorem r_has {g : Nat → Nat → Int32} {S : XH} {P : XP} {w : Nat} {l : List R6} {kind tr : Int32} (hR : RM g S) (hw : w < 5) (hJ : JM g w l)
    (h0 : (∀ e ∈ l, ¬ is6 kind (Int32.ofNat w) tr e) → P (.inl (some (xv_i 0))) S) (h1 : (∃ e ∈ l, is6 kind (Int32.ofNat w) tr e) → P (.inl (some (xv_i 1))) S) :
    Y_R_has 0 0 [xv_r 15 0, xv_i (Int32.ofNat w), xv_i kind, xv_i tr] S P := by
  have j2 := jcap_le hw hJ.2.1
  refine x_go.run mn_R_has 20 ?_
  refine ⟨nl rfl, ⟨_, hR.1⟩, rfl, nl rfl, 0, 0, Nat.zero_le _, Nat.zero_le _, (r_find hR hw hJ ?_ ?_)⟩
  · intro hno
    refine ⟨fun c => ⟨Or.inl rfl, h0 fun e he => ?_⟩, fun c => (c (by decide)).elim⟩
    obtain ⟨i, hi, rfl⟩ := List.mem_iff_getElem.mp he
    exact hno i hi
  · intro i hi his _
    refine ⟨fun c => (z_neg (by omega) c).elim, fun c => ⟨Or.inr rfl, h1 ⟨l[i], List.getElem_mem hi, his⟩⟩⟩
/-- a record 4 whose trace has no record 5 -/
def isV (l : List R6) (w : Int32) (e : R6) : Prop := e.1 = 4 ∧ ¬ ∃ x ∈ l, is6 5 w e.2.2.1 x
noncomputable def isVb (l : List R6) (w : Int32) (e : R6) : Bool := @decide (isV l w e) (Classical.propDecidable _)
theorem isVb_iff {l : List R6} {w : Int32} {e : R6} : isVb l w e = true ↔ isV l w e := by
  exact @decide_eq_true_iff _ (Classical.propDecidable _)
/-- the VOIDS of journal w -/
noncomputable def voidsOf (l : List R6) (w : Int32) : List R6 := l.filter (isVb l w)
theorem r_isVoid {g : Nat → Nat → Int32} {S : XH} {P : XP} {w i : Nat} {l : List R6} (hR : RM g S) (hw : w < 5) (hJ : JM g w l) (hi : i < l.length)
    (h0 : isVb l (Int32.ofNat w) l[i] = false → P (.inl (some (xv_i 0))) S) (h1 : isVb l (Int32.ofNat w) l[i] = true → P (.inl (some (xv_i 1))) S) :
    Y_R_isVoid 0 0 [xv_r 15 0, xv_i (Int32.ofNat w), xv_i (Int32.ofNat (1200 * w + i))] S P := by
  have j2 := jcap_le hw hJ.2.1
  obtain ⟨q1, q2, q3, -⟩ := hJ.2.2 i hi
  have hf : ¬ isV l (Int32.ofNat w) l[i] → isVb l (Int32.ofNat w) l[i] = false := fun h => by
    rw [← isVb_iff] at h
    simpa using h
  refine x_go.run mn_R_isVoid 40 ?_
  refine ⟨nl rfl, _, _, hR.1, rfl, ?_⟩
  refine ⟨_, _, hR.2.1 0 rfl, z_in (by show _ < 8800; omega) (by decide), ?_⟩
  rw [z_nat (by omega)]
  rw [q1]
  refine ⟨fun c => ⟨Or.inl rfl, h0 (hf fun q => c q.1)⟩, fun c => ?_⟩
  refine ⟨nl rfl, _, _, hR.1, rfl, ?_⟩
  refine ⟨_, _, hR.2.1 2 rfl, z_in (by show _ < 8800; omega) (by decide), ?_⟩
  rw [z_nat (by omega)]
  rw [q3]
  refine ⟨nl rfl, ⟨_, hR.1⟩, rfl, nl rfl, 0, 0, Nat.zero_le _, Nat.zero_le _, (r_has hR hw hJ ?_ ?_)⟩
  · intro hno
    refine ⟨fun c => (c rfl).elim, fun _ => ⟨Or.inr rfl, h1 (isVb_iff.mpr ⟨Classical.not_not.mp c, ?_⟩)⟩⟩
    rintro ⟨x, hx, h⟩
    exact hno x hx h
  · intro hex
    exact ⟨fun _ => ⟨Or.inl rfl, h0 (hf fun q => q.2 hex)⟩, fun c => (c (by decide)).elim⟩
/-- counting along a list -/
theorem cnt_suc {α : Type} {p : α → Bool} {l : List α} {i : Nat} (hi : i < l.length) : ((l.take (i + 1)).filter p).length = ((l.take i).filter p).length + (if p l[i] = true then 1 else 0) := by
  rw [List.take_succ_eq_append_getElem hi, List.filter_append, List.length_append]
  congr 1
  by_cases h : p l[i] = true
  · rw [if_pos h, List.filter_cons_of_pos h]
    rfl
  · rw [if_neg h, List.filter_cons_of_neg h]
    rfl
theorem r_voids {g : Nat → Nat → Int32} {S : XH} {P : XP} {w : Nat} {l : List R6} (hR : RM g S) (hw : w < 5) (hJ : JM g w l)
    (h : P (.inl (some (xv_i (Int32.ofNat (voidsOf l (Int32.ofNat w)).length)))) S) : Y_R_voids 0 0 [xv_r 15 0, xv_i (Int32.ofNat w)] S P := by
  have j2 := jcap_le hw hJ.2.1
  have j1 := hJ.1
  have loop : ∀ n i, l.length - i = n → i ≤ l.length →
      x_go b_R_voids P 7 [some (xv_r 15 0), some (xv_i (Int32.ofNat w)), some (xv_i (Int32.ofNat ((l.take i).filter (isVb l (Int32.ofNat w))).length)), some (xv_i (Int32.ofNat (1200 * w + i)))] [] S 0 0 := by
    intro n
    induction n with
    | zero =>
      intro i hn hi
      have e : i = l.length := by omega
      refine x_go.run mn_R_voids 40 ?_
      refine ⟨nl rfl, rfl, nl rfl, 0, 0, Nat.zero_le _, Nat.zero_le _, r_at ?_⟩
      refine ⟨nl rfl, _, _, hR.1, rfl, ?_⟩
      refine ⟨_, _, hR.2.1 6 rfl, z_in (by exact hw) (by decide), ?_⟩
      rw [z_nat (by omega)]
      rw [j1]
      refine ⟨fun c => ?_, fun c => (c ((jm_head j2 hi).mpr e)).elim⟩
      rw [e, List.take_length]
      exact h
    | succ n ih =>
      intro i hn hi
      have hi' : i < l.length := by omega
      have hnx := ih (i + 1) (by omega) (by omega)
      rw [cnt_suc hi', ← Nat.add_assoc, ← z_suc (1200 * w + i)] at hnx
      refine x_go.run mn_R_voids 40 ?_
      refine ⟨nl rfl, rfl, nl rfl, 0, 0, Nat.zero_le _, Nat.zero_le _, r_at ?_⟩
      refine ⟨nl rfl, _, _, hR.1, rfl, ?_⟩
      refine ⟨_, _, hR.2.1 6 rfl, z_in (by exact hw) (by decide), ?_⟩
      rw [z_nat (by omega)]
      rw [j1]
      refine ⟨fun c => absurd ((jm_head j2 hi).mp c) (by omega), fun _ => ?_⟩
      refine ⟨nl rfl, ⟨_, hR.1⟩, rfl, nl rfl, 0, 0, Nat.zero_le _, Nat.zero_le _, (r_isVoid hR hw hJ hi' ?_ ?_)⟩
      · intro hv
        rw [hv] at hnx
        exact ⟨fun _ => x_go.back mn_R_voids (x_go.run mn_R_voids 2 hnx), fun c => (c rfl).elim⟩
      · intro hv
        rw [hv, if_pos rfl, ← z_suc] at hnx
        exact ⟨fun c => absurd c (by decide), fun c => x_go.back mn_R_voids (x_go.run mn_R_voids 3 hnx)⟩
  refine x_go.run mn_R_voids 5 ?_
  refine ⟨nl rfl, rfl, nl rfl, 0, 0, Nat.zero_le _, Nat.zero_le _, r_at ?_⟩
  exact loop _ 0 rfl (Nat.zero_le _)
/-- how many were asked for -/
def asks (l : List R6) : Nat := (l.filter (fun e => e.1 == 1)).length
theorem r_lastTrace {g : Nat → Nat → Int32} {S : XH} {P : XP} {w : Nat} {l : List R6} (hR : RM g S) (hw : w < 5) (hJ : JM g w l)
    (h : P (.inl (some (xv_i (Int32.ofNat (asks l))))) S) : Y_R_lastTrace 0 0 [xv_r 15 0, xv_i (Int32.ofNat w)] S P := by
  have j2 := jcap_le hw hJ.2.1
  have j1 := hJ.1
  have loop : ∀ n i, l.length - i = n → i ≤ l.length →
      x_go b_R_lastTrace P 7 [some (xv_r 15 0), some (xv_i (Int32.ofNat w)), some (xv_i (Int32.ofNat ((l.take i).filter (fun e => e.1 == 1)).length)), some (xv_i (Int32.ofNat (1200 * w + i)))] [] S 0 0 := by
    intro n
    induction n with
    | zero =>
      intro i hn hi
      have e : i = l.length := by omega
      refine x_go.run mn_R_lastTrace 40 ?_
      refine ⟨nl rfl, rfl, nl rfl, 0, 0, Nat.zero_le _, Nat.zero_le _, r_at ?_⟩
      refine ⟨nl rfl, _, _, hR.1, rfl, ?_⟩
      refine ⟨_, _, hR.2.1 6 rfl, z_in (by exact hw) (by decide), ?_⟩
      rw [z_nat (by omega)]
      rw [j1]
      refine ⟨fun c => ?_, fun c => (c ((jm_head j2 hi).mpr e)).elim⟩
      rw [e, List.take_length]
      exact h
    | succ n ih =>
      intro i hn hi
      have hi' : i < l.length := by omega
      have hnx := ih (i + 1) (by omega) (by omega)
      rw [cnt_suc hi', ← Nat.add_assoc, ← z_suc (1200 * w + i)] at hnx
      refine x_go.run mn_R_lastTrace 40 ?_
      refine ⟨nl rfl, rfl, nl rfl, 0, 0, Nat.zero_le _, Nat.zero_le _, r_at ?_⟩
      refine ⟨nl rfl, _, _, hR.1, rfl, ?_⟩
      refine ⟨_, _, hR.2.1 6 rfl, z_in (by exact hw) (by decide), ?_⟩
      rw [z_nat (by omega)]
      rw [j1]
      refine ⟨fun c => absurd ((jm_head j2 hi).mp c) (by omega), fun _ => ?_⟩
      refine ⟨nl rfl, _, _, hR.1, rfl, ?_⟩
      refine ⟨_, _, hR.2.1 0 rfl, z_in (by show _ < 8800; omega) (by decide), ?_⟩
      rw [z_nat (by omega)]
      rw [(hJ.2.2 i hi').1]
      refine ⟨fun c => ?_, fun c => ?_⟩
      · rw [if_neg (by simpa using c)] at hnx
        exact x_go.back mn_R_lastTrace (x_go.run mn_R_lastTrace 2 hnx)
      · rw [if_pos (by simpa using c), ← z_suc] at hnx
        exact x_go.back mn_R_lastTrace (x_go.run mn_R_lastTrace 3 hnx)
  refine x_go.run mn_R_lastTrace 5 ?_
  refine ⟨nl rfl, rfl, nl rfl, 0, 0, Nat.zero_le _, Nat.zero_le _, r_at ?_⟩
  exact loop _ 0 rfl (Nat.zero_le _)
theorem r_amountOf {g : Nat → Nat → Int32} {S : XH} {P : XP} {w : Nat} {l : List R6} {tr : Int32} (hR : RM g S) (hw : w < 5) (hJ : JM g w l) (hex : ∃ e ∈ l, is6 1 (Int32.ofNat w) tr e)
    (h : ∀ i (h : i < l.length), is6 1 (Int32.ofNat w) tr l[i] → (∀ j (hj : j < i), ¬ is6 1 (Int32.ofNat w) tr l[j]) → P (.inl (some (xv_i l[i].2.2.2.2.1))) S) : Y_R_amountOf 0 0 [xv_r 15 0, xv_i (Int32.ofNat w), xv_i tr] S P := by
  have j2 := jcap_le hw hJ.2.1
  refine x_go.run mn_R_amountOf 20 ?_
  refine ⟨nl rfl, _, _, hR.1, rfl, ?_⟩
  refine ⟨nl rfl, ⟨_, hR.1⟩, rfl, nl rfl, 0, 0, Nat.zero_le _, Nat.zero_le _, (r_find hR hw hJ ?_ ?_)⟩
  · intro hno
    obtain ⟨e, he, q⟩ := hex
    obtain ⟨i, hi, rfl⟩ := List.mem_iff_getElem.mp he
    exact (hno i hi q).elim
  · intro i hi his hno
    refine ⟨_, _, hR.2.1 4 rfl, z_in (by show _ < 8800; omega) (by decide), ?_⟩
    rw [z_nat (by omega)]
    rw [((hJ.2.2 i hi).2.2.2.1 (Or.inl his.1)).2]
    exact h i hi his hno
