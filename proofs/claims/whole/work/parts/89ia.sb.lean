/-! java.lang.StringBuilder, of Latin-1 letters: the builder at 13 b, its bytes at kind 14 -/
theorem z_shr0 (x : Int32) : x >>> ((0 : Int32) &&& 31) = x := by
  rw [show ((0 : Int32) &&& 31) = 0 by decide]
  exact Int32.shiftRight_zero
theorem z_shl0 (x : Int32) : x <<< ((0 : Int32) &&& 31) = x := by
  rw [show ((0 : Int32) &&& 31) = 0 by decide]
  exact Int32.shiftLeft_zero
theorem bz_rng (x : Int32) : -128 ≤ x.toInt8.toInt32 ∧ x.toInt8.toInt32 ≤ 127 := by
  rw [Int32.le_iff_toInt_le, Int32.le_iff_toInt_le, Int8.toInt_toInt32]
  have h1 := x.toInt8.le_toInt
  have h2 := x.toInt8.toInt_le
  have h3 : Int8.maxValue.toInt = 127 := by decide
  have h4 : Int8.minValue.toInt = -128 := by decide
  constructor
  · show (-128 : Int) ≤ _
    omega
  · show _ ≤ (127 : Int)
    omega
theorem bz_bz (x : Int32) : x.toInt8.toInt32.toInt8.toInt32 = x.toInt8.toInt32 := by simp
theorem i2c_id {c : Nat} (h : c < 256) : ((Int32.ofNat c).toUInt32 % 65536).toInt32 = Int32.ofNat c := by
  have : ∀ b : Fin 256, ((Int32.ofNat b.1).toUInt32 % 65536).toInt32 = Int32.ofNat b.1 := by decide +kernel
  exact this ⟨c, h⟩
theorem c_id {c : Nat} (h : c < 256) : (Int32.ofNat c).toUInt32.toUInt16.toUInt32.toInt32 = Int32.ofNat c := by
  have : ∀ b : Fin 256, (Int32.ofNat b.1).toUInt32.toUInt16.toUInt32.toInt32 = Int32.ofNat b.1 := by decide +kernel
  exact this ⟨c, h⟩
def BS (S : XH) (b cap : Nat) (L : List Nat) : Prop := ∃ (a : Nat) (f : Nat → Int32) (ml : Int32), S 13 b = some (.inl (9, [xv_r 14 a, xv_i 0, xv_i ml, xv_i (Int32.ofNat L.length)])) ∧ S 14 a = some (.inr (2, cap, .inl f)) ∧ L.length ≤ cap ∧ (∀ j (h : j < L.length), f j = bz L[j]) ∧ (∀ x ∈ L, x < 256) ∧ ∀ j, -128 ≤ f j ∧ f j ≤ 127
/-- nothing but the builder has changed -/
def fb (b : Nat) (S S' : XH) : Prop := ∀ k i, ¬ (k = 13 ∧ i = b) → k ≠ 14 → S' k i = S k i
theorem fb.rf {b : Nat} {S : XH} : fb b S S := fun _ _ _ _ => rfl
theorem fb.tr {b : Nat} {S S' S'' : XH} (h : fb b S S') (h' : fb b S' S'') : fb b S S'' := fun k i q r => (h' k i q r).trans (h k i q r)
theorem fb.up {b k i : Nat} {S S' : XH} {c : XC} (h : fb b S S') (hk : (k = 13 ∧ i = b) ∨ k = 14) : fb b S (x_up S' k i c) := fun k' i' q r => by
  rw [x_up_ne (by omega)]
  exact h k' i' q r
section SB
variable {S : XH} {P : XP} {b cap : Nat} {L : List Nat}
theorem c_len2 {old mn pf : Nat} (h : mn ≤ pf) (h0 : 0 < old + pf) (h1 : old + pf ≤ 100000) (hP : P (.inl (some (xv_i (Int32.ofNat (old + pf))))) S) : Y_ZArraysSupport_newLength 0 0 [xv_i (Int32.ofNat old), xv_i (Int32.ofNat mn), xv_i (Int32.ofNat pf)] S P := by
  have e1 : (if Int32.ofNat mn < Int32.ofNat pf then Int32.ofNat pf else Int32.ofNat mn) = Int32.ofNat pf := by
    by_cases z : mn = pf
    · rw [z]
      split <;> rfl
    · rw [if_pos ((z_lt (by omega) (by omega)).mpr (by omega))]
  refine x_go.run mn_ZArraysSupport_newLength 6 ?_
  refine ⟨nl rfl, ?_⟩
  show x_go b_ZArraysSupport_newLength P 8 [some (xv_i (Int32.ofNat old)), some (xv_i (Int32.ofNat mn)), some (xv_i (Int32.ofNat pf)), some (xv_i (Int32.ofNat old + (if Int32.ofNat mn < Int32.ofNat pf then Int32.ofNat pf else Int32.ofNat mn)))] [] S 0 0
  rw [e1, z_add]
  refine x_go.run mn_ZArraysSupport_newLength 10 ?_
  refine ⟨fun c => ?_, fun _ => ⟨fun c => ?_, fun _ => hP⟩⟩
  · have := (z_le (b := 0) (by omega) (by decide)).mp c
    omega
  · have := (z_lt (a := 2147483639) (by decide) (by omega)).mp c
    omega
theorem c_newCap {n : Nat} (h : BS S b cap L) (hc : cap ≤ 1000) (h1 : cap < n) (h2 : n ≤ cap + cap + 2) (hP : P (.inl (some (xv_i (Int32.ofNat (cap + cap + 2))))) S) : Y_ZAbstractStringBuilder_newCapacity 0 0 [xv_r 13 b, xv_i (Int32.ofNat n)] S P := by
  obtain ⟨a, f, ml, q1, q2, q3, q4, q5, q6⟩ := h
  refine x_go.run mn_ZAbstractStringBuilder_newCapacity 60 ?_
  refine ⟨nl rfl, _, _, q1, rfl, ?_⟩
  refine ⟨_, _, _, q2, by decide, ?_⟩
  refine ⟨nl rfl, _, _, q1, rfl, ?_⟩
  refine ⟨nl rfl, _, _, q1, rfl, ?_⟩
  refine ⟨nl rfl, rfl, nl rfl, 0, 0, Nat.zero_le _, Nat.zero_le _, ?_⟩
  show Y_ZArraysSupport_newLength 0 0 [xv_i (Int32.ofNat cap), xv_i (Int32.ofNat n <<< ((0 : Int32) &&& 31) - Int32.ofNat cap), xv_i (Int32.ofNat cap + (2 : Int32) <<< ((0 : Int32) &&& 31))] S _
  rw [z_shl0, z_shl0, z_sub (by omega), show (2 : Int32) = Int32.ofNat 2 from rfl, z_add]
  refine c_len2 (by omega) (by omega) (by omega) ?_
  refine ⟨fun _ => ?_, fun c => ?_⟩
  · refine ⟨nl rfl, _, _, q1, rfl, ?_⟩
    show P (.inl (some (xv_i (Int32.ofNat (cap + (cap + 2)) >>> ((0 : Int32) &&& 31))))) S
    rw [z_shr0, ← Nat.add_assoc]
    exact hP
  · have := (z_eq (a := cap + (cap + 2)) (b := 2147483647) (by omega) (by decide)).mp (Classical.not_not.mp c)
    omega
theorem c_copyB {a m q : Nat} {f : Nat → Int32} (h : S 14 a = some (.inr (2, m, .inl f))) (hf : ∀ j, -128 ≤ f j ∧ f j ≤ 127) (hm : m < q) (hq : q ≤ 10000) (hF : RF S) (hP : ∀ a', S 14 a' = none → P (.inl (some (xv_r 14 a'))) (x_up S 14 a' (.inr (2, q, .inl (va_cpy f (fun _ => 0) 0 0 m))))) : Y_ZArrays_copyOf_3 1 q [xv_r 14 a, xv_i (Int32.ofNat q)] S P := by
  obtain ⟨nf, hnf⟩ := hF
  have ha : S 14 nf = none := (hnf nf (Nat.le_refl _)).2.2.2.2.1
  have hne : a ≠ nf := by
    rintro rfl
    rw [ha] at h
    cases h
  refine x_go.run mn_ZArrays_copyOf_3 40 ?_
  refine ⟨_, _, _, h, by decide, ?_⟩
  refine ⟨fun _ => ?_, fun c => ?_⟩
  · refine ⟨z_neg (by omega), ?_, nl rfl, by rw [z_nat (by omega)]; exact Nat.le_refl _, 14, nf, by decide, ha, ?_⟩
    · rw [z_nat (by omega)]
      omega
    rw [z_nat (by omega)]
    have h2' : x_up S 14 nf (.inr (2, q, .inl (fun _ => 0))) 14 a = some (.inr (2, m, .inl f)) := by
      rw [x_up_ne (by omega)]
      exact h
    refine x_go.back mn_ZArrays_copyOf_3 (x_go.run mn_ZArrays_copyOf_3 14 ?_)
    refine ⟨_, _, _, h2', by decide, nl rfl, ?_⟩
    have en : (if Int32.ofNat q < Int32.ofNat m then Int32.ofNat q else Int32.ofNat m) = Int32.ofNat m := by
      rw [z_min _ _ (by omega) (by omega), Nat.min_eq_left (by omega)]
    have ec : Int32.toNatClampNeg (if Int32.ofNat q < Int32.ofNat m then Int32.ofNat q else Int32.ofNat m) = m := by
      rw [en, z_nat (by omega)]
    refine ⟨nl rfl, m, f, q, fun _ => 0, h2', x_up_self _ _ _ _, nl rfl, by decide, by decide, ?_, ?_, ?_, fun i _ => hf _, ?_⟩
    · show ¬ (if Int32.ofNat q < Int32.ofNat m then Int32.ofNat q else Int32.ofNat m) < 0
      rw [en]
      exact z_neg (by omega)
    · show 0 + Int32.toNatClampNeg (if Int32.ofNat q < Int32.ofNat m then Int32.ofNat q else Int32.ofNat m) ≤ m
      rw [ec]
      omega
    · show 0 + Int32.toNatClampNeg (if Int32.ofNat q < Int32.ofNat m then Int32.ofNat q else Int32.ofNat m) ≤ q
      rw [ec]
      omega
    · have kk := hP nf ha
      rw [← x_up_up _ _ _ (.inr (2, q, .inl (fun _ => 0))), ← ec] at kk
      exact kk
  · have := (z_eq (by omega) (by omega)).mp (Classical.not_not.mp c)
    omega
def ec (cap n : Nat) : Nat := if n ≤ cap then 0 else 1
def cgn (cap n : Nat) : Nat := if n ≤ cap then cap else cap + cap + 2
theorem c_ensure {n : Nat} (h : BS S b cap L) (hc : cap ≤ 1000) (h2 : n ≤ cap + cap + 2) (hF : RF S) (hP : ∀ S', BS S' b (cgn cap n) L → fb b S S' → RF S' → P (.inl none) S') : Y_ZAbstractStringBuilder_ensureCapacityInternal (ec cap n) (ec cap n * (cap + cap + 2)) [xv_r 13 b, xv_i (Int32.ofNat n)] S P := by
  obtain ⟨a, f, ml, q1, q2, q3, q4, q5, q6⟩ := id h
  have e : ∀ x : Int32, x = Int32.ofNat n - Int32.ofNat cap >>> ((0 : Int32) &&& 31) → (x ≤ 0 ↔ n ≤ cap) := by
    intro x hx
    rw [z_shr0] at hx
    subst hx
    rw [Int32.le_iff_toInt_le, z_isub (a := (n : Int)) (b := (cap : Int)) (Int32.toInt_ofNat_of_lt (by omega)) (Int32.toInt_ofNat_of_lt (by omega)) (by omega) (by omega)]
    show (n : Int) - cap ≤ 0 ↔ _
    omega
  refine x_go.run mn_ZAbstractStringBuilder_ensureCapacityInternal 60 ?_
  refine ⟨nl rfl, _, _, q1, rfl, ?_⟩
  refine ⟨_, _, _, q2, by decide, ?_⟩
  refine ⟨nl rfl, _, _, q1, rfl, ?_⟩
  by_cases hn : n ≤ cap
  · refine ⟨fun _ => ?_, fun c => (c ((e _ rfl).mpr hn)).elim⟩
    have := hP S (by unfold cgn; rw [if_pos hn]; exact h) fb.rf hF
    exact this
  · refine ⟨fun c => (hn ((e _ rfl).mp c)).elim, fun _ => ?_⟩
    have e1 : ec cap n = 1 := if_neg hn
    have e2 : cgn cap n = cap + cap + 2 := if_neg hn
    rw [e1, Nat.one_mul]
    refine ⟨nl rfl, _, _, q1, rfl, ?_⟩
    refine ⟨nl rfl, ⟨_, q1⟩, rfl, nl rfl, 0, 0, Nat.zero_le _, Nat.zero_le _, c_newCap h hc (by omega) h2 ?_⟩
    refine ⟨nl rfl, _, _, q1, rfl, ?_⟩
    refine ⟨nl rfl, rfl, nl rfl, 1, cap + cap + 2, nl rfl, Nat.le_refl _, ?_⟩
    show Y_ZArrays_copyOf_3 1 (cap + cap + 2) [xv_r 14 a, xv_i (Int32.ofNat (cap + cap + 2) <<< ((0 : Int32) &&& 31))] S _
    rw [z_shl0]
    refine c_copyB q2 q6 (by omega) (by omega) hF fun a' ha' => ?_
    refine ⟨trivial, _, by rw [x_up_ne (by omega)]; exact q1, nl rfl, nl rfl, ?_⟩
    refine hP _ ⟨a', va_cpy f (fun _ => 0) 0 0 cap, ml, ?_, ?_, by rw [e2]; omega, fun j hj => ?_, q5, fun j => ?_⟩ ((fb.rf.up (Or.inr rfl)).up (Or.inl ⟨rfl, rfl⟩)) hF.up.up
    · rw [x_up_self]
      rfl
    · rw [x_up_ne (by omega), x_up_self, e2]
    · show (if 0 ≤ j ∧ j < 0 + cap then f (0 + (j - 0)) else 0) = _
      rw [if_pos (by omega), show 0 + (j - 0) = j by omega]
      exact q4 j hj
    · show -128 ≤ (if 0 ≤ j ∧ j < 0 + cap then f (0 + (j - 0)) else 0) ∧ (if 0 ≤ j ∧ j < 0 + cap then f (0 + (j - 0)) else 0) ≤ 127
      split
      · exact q6 _
      · decide
theorem c_latin (h : BS S b cap L) (hP : P (.inl (some (xv_i 1))) S) : Y_ZAbstractStringBuilder_isLatin1 0 0 [xv_r 13 b] S P := by
  obtain ⟨a, f, ml, q1, -⟩ := h
  refine x_go.run mn_ZAbstractStringBuilder_isLatin1 12 ?_
  refine ⟨fun c => absurd c (by decide), fun _ => ?_⟩
  refine ⟨nl rfl, _, _, q1, rfl, ?_⟩
  refine ⟨fun c => (c rfl).elim, fun _ => ⟨Or.inr rfl, hP⟩⟩
theorem c_enc {c : Nat} (hc : c < 256) (hP : P (.inl (some (xv_i 1))) S) : Y_ZStringLatin1_canEncode 0 0 [xv_i (Int32.ofNat c)] S P := by
  refine x_go.run mn_ZStringLatin1_canEncode 12 ?_
  refine ⟨fun z => ?_, fun _ => ⟨Or.inr rfl, hP⟩⟩
  have := (z_lt (a := 255) (by decide) (by omega)).mp z
  omega
theorem BS.put {a : Nat} {f : Nat → Int32} {ml : Int32} {S' : XH} {i c : Nat} (q1 : S' 13 b = some (.inl (9, [xv_r 14 a, xv_i 0, xv_i ml, xv_i (Int32.ofNat (L.set i c).length)]))) (q3 : L.length ≤ cap) (q4 : ∀ j (h : j < L.length), j ≠ i → f j = bz L[j]) (q5 : ∀ x ∈ L, x < 256) (q6 : ∀ j, -128 ≤ f j ∧ f j ≤ 127) (hc : c < 256) (q2 : S' 14 a = some (.inr (2, cap, .inl (upd f i (bz c))))) : BS S' b cap (L.set i c) := by
  refine ⟨a, upd f i (bz c), ml, q1, q2, by rw [List.length_set]; exact q3, fun j hj => ?_, fun x hx => ?_, fun j => ?_⟩
  · rw [List.getElem_set]
    by_cases e : j = i
    · subst e
      rw [if_pos rfl]
      exact if_pos rfl
    · rw [if_neg (fun z => e z.symm)]
      rw [List.length_set] at hj
      show (if j = i then _ else f j) = _
      rw [if_neg e]
      exact q4 j hj e
  · rcases List.mem_or_eq_of_mem_set hx with z | z
    · exact q5 x z
    · omega
  · show -128 ≤ (if j = i then bz c else f j) ∧ (if j = i then bz c else f j) ≤ 127
    split
    · exact bz_rng _
    · exact q6 j
end SB
