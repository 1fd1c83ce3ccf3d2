/-! the bytes of a MESSAGE -/
def bz (b : Nat) : Int32 := (Int32.ofNat b).toInt8.toInt32
theorem bz_255 {b : Nat} (h : b < 256) : bz b &&& 255 = Int32.ofNat b := by
  have : ∀ b : Fin 256, ((Int32.ofNat b.1).toInt8.toInt32 &&& 255) = Int32.ofNat b.1 := by decide +kernel
  exact this ⟨b, h⟩
/-- n digits of V -/
def digs (V n : Nat) : List Nat := (List.range n).map fun i => 48 + V / 10 ^ (n - 1 - i) % 10
theorem digs_len (V n : Nat) : (digs V n).length = n := by simp [digs]
theorem digs_at {V n i : Nat} (h : i < (digs V n).length) : (digs V n)[i] = 48 + V / 10 ^ (n - 1 - i) % 10 := by simp [digs]
def BR (g : Nat → Nat → Int32) (L : List Nat) : Prop := g 30 0 = Int32.ofNat L.length ∧ L.length ≤ 64 ∧ (∀ j (h : j < L.length), g 29 j = bz L[j]) ∧ ∀ b ∈ L, b < 256
theorem RM.row {g : Nat → Nat → Int32} {S : XH} (h : RM g S) (f : Nat → Int32) : RM (gs g 29 f) (x_up S 17 0 (.inr (2, 64, .inl f))) := by
  obtain ⟨h1, h2, h3⟩ := h
  refine ⟨?_, fun k hk => ?_, ?_⟩
  · rw [x_up_ne (by omega), h1]
    rfl
  · rw [x_up_ne (by omega), gs_ne (by rintro rfl; cases hk)]
    exact h2 k hk
  · rw [x_up_self, gs_self]
/-- a byte more -/
def g_row (g : Nat → Nat → Int32) (v : Int32) : Nat → Nat → Int32 := gs (gs g 30 (upd (g 30) 0 (g 30 0 + 1))) 29 (upd (g 29) (g 30 0).toNatClampNeg v)
def S_row (g : Nat → Nat → Int32) (S : XH) (v : Int32) : XH := x_up (x_up S 15 0 (.inl (10, (mfl g).set 30 (xv_i (g 30 0 + 1))))) 17 0 (.inr (2, 64, .inl (upd (g 29) (g 30 0).toNatClampNeg v)))
theorem BR.push {g : Nat → Nat → Int32} {L : List Nat} (h : BR g L) (hl : L.length < 64) {b : Nat} (hb : b < 256) : BR (g_row g (bz b)) (L ++ [b]) := by
  obtain ⟨h1, h2, h3, h4⟩ := h
  refine ⟨?_, by rw [List.length_append]; exact hl, fun j hj => ?_, fun x hx => ?_⟩
  · show upd (g 30) 0 (g 30 0 + 1) 0 = _
    rw [upd_self, h1, z_suc, List.length_append]
    rfl
  · show upd (g 29) (g 30 0).toNatClampNeg (bz b) j = _
    rw [h1, z_nat (by omega)]
    by_cases e : j = L.length
    · subst e
      rw [upd_self, List.getElem_concat_length rfl]
    · have hj' : j < L.length := by
        rw [List.length_append] at hj
        change j < _ + 1 at hj
        omega
      rw [upd_ne e, List.getElem_append_left hj']
      exact h3 j hj'
  · rcases List.mem_append.mp hx with q | q
    · exact h4 x q
    · rw [List.mem_singleton.mp q]
      exact hb
/-- while bytes are laid -/
def Mb (g : Nat → Nat → Int32) (S : XH) (g1 : Nat → Nat → Int32) (S1 : XH) : Prop := RM g1 S1 ∧ (∀ k, k ≠ 29 → k ≠ 30 → g1 k = g k) ∧ fm S S1 ∧ S1 19 = S 19
theorem Mb.rf {g : Nat → Nat → Int32} {S : XH} (h : RM g S) : Mb g S g S := ⟨h, fun _ _ _ => rfl, fm.rf, rfl⟩
theorem Mb.tr {g g1 g2 : Nat → Nat → Int32} {S S1 S2 : XH} (h : Mb g S g1 S1) (h' : Mb g1 S1 g2 S2) : Mb g S g2 S2 := ⟨h'.1, fun k a b => (h'.2.1 k a b).trans (h.2.1 k a b), h.2.2.1.tr h'.2.2.1, h'.2.2.2.trans h.2.2.2⟩
theorem Mb.push {g g1 : Nat → Nat → Int32} {S S1 : XH} (h : Mb g S g1 S1) (v : Int32) : Mb g S (g_row g1 v) (S_row g1 S1 v) := by
  obtain ⟨h1, h2, h3, h4⟩ := h
  refine ⟨(h1.put (n := 30) (g1 30 0 + 1) (Or.inr (Or.inr (Or.inr rfl)))).row _, fun k a b => ?_, (h3.up (by decide) (by decide)).up (by decide) (by decide), ?_⟩
  · unfold g_row
    rw [gs_ne a, gs_ne b]
    exact h2 k a b
  · unfold S_row
    rw [x_up_k (by decide), x_up_k (by decide)]
    exact h4
theorem RM.r17 {g : Nat → Nat → Int32} {S : XH} (h : RM g S) (c : XC) : x_up S 15 0 c 17 0 = some (.inr (2, 64, .inl (g 29))) := by
  rw [x_up_ne (by omega)]
  exact h.2.2
theorem take_push {l L : List Nat} {i : Nat} (hi : i < l.length) : L ++ l.take (i + 1) = (L ++ l.take i) ++ [l[i]] := by
  rw [List.take_succ_eq_append_getElem hi, List.append_assoc]
theorem pow_lt9 {q : Nat} (h : q ≤ 8) : 10 ^ q ≤ 100000000 := by
  have : 10 ^ q ≤ 10 ^ 8 := Nat.pow_le_pow_right (by decide) h
  simpa using this
set_option maxHeartbeats 4000000 in
theorem r_digits {g : Nat → Nat → Int32} {S : XH} {P : XP} {V n : Nat} {L : List Nat} (hR : RM g S) (hB : BR g L) (hV : V < 1000000000) (hn : 1 ≤ n) (hn' : n ≤ 12) (hL : L.length + n ≤ 64)
    (h : ∀ g' S', Mb g S g' S' → BR g' (L ++ digs V n) → P (.inl none) S') : Y_R_digits 0 0 [xv_r 15 0, xv_i (Int32.ofNat V), xv_i (Int32.ofNat n)] S P := by
  have hdl := digs_len V n
  have lc : ∀ r i p (g1 : Nat → Nat → Int32) (S1 : XH) (j4 : Option XV), n - i = r → i ≤ n → (i < n → n - 1 - i ≤ 8) → p = (if i < n then 10 ^ (n - 1 - i) else 0) → Mb g S g1 S1 → BR g1 (L ++ (digs V n).take i) →
      x_go b_R_digits P 63 [some (xv_r 15 0), some (xv_i (Int32.ofNat V)), some (xv_i (Int32.ofNat n)), some (xv_i (Int32.ofNat p)), j4] [] S1 0 0 := by
    intro r
    induction r with
    | zero =>
      intro i p g1 S1 j4 hr hi h9 hp hM hb
      have e : i = n := by omega
      rw [if_neg (by omega)] at hp
      subst hp
      refine x_go.run mn_R_digits 10 ?_
      refine ⟨fun _ => ?_, fun z => (z (by decide)).elim⟩
      rw [e, List.take_of_length_le (by omega)] at hb
      exact h g1 S1 hM hb
    | succ r ih =>
      intro i p g1 S1 j4 hr hi h9 hp hM hb
      have hi' : i < n := by omega
      have h9 := h9 hi'
      rw [if_pos hi'] at hp
      have hp9 := pow_lt9 h9
      have hp0 : 0 < 10 ^ (n - 1 - i) := Nat.pow_pos (by decide)
      rw [← hp] at hp9 hp0
      have hlen : (L ++ (digs V n).take i).length = L.length + i := by
        rw [List.length_append, List.length_take, hdl]
        omega
      obtain ⟨b1, b2, b3, b4⟩ := hb
      refine x_go.run mn_R_digits 40 ?_
      refine ⟨fun z => ?_, fun _ => ?_⟩
      · exfalso
        have := (z_le (b := 0) (by omega) (by decide)).mp z
        omega
      refine ⟨nl rfl, _, _, hM.1.1, rfl, ?_⟩
      refine ⟨nl rfl, _, _, hM.1.1, rfl, ?_⟩
      refine ⟨trivial, _, hM.1.1, nl rfl, nl rfl, ?_⟩
      refine ⟨fun z => ?_, ?_⟩
      · have := (z_eq (b := 0) (by omega) (by decide)).mp z
        omega
      refine ⟨by decide, ?_⟩
      have ed : (48 : Int32) + (Int32.ofNat V / Int32.ofNat p - Int32.ofNat V / Int32.ofNat p / 10 * 10) = Int32.ofNat (48 + V / p % 10) := by
        have hq : V / p ≤ V := Nat.div_le_self _ _
        rw [z_div (by omega) (by omega), show (10 : Int32) = Int32.ofNat 10 from rfl, z_div (by omega) (by decide), z_mul, z_sub (by omega), show (48 : Int32) = Int32.ofNat 48 from rfl, z_add]
        congr 1
        omega
      have ep : Int32.ofNat p / 10 = Int32.ofNat (p / 10) := z_div (b := 10) (by omega) (by decide)
      refine ⟨_, _, hM.1.r17 _, nl rfl, (by show vp_in (g1 30 0) 64; rw [b1]; exact z_in (by omega) (by decide)), ?_⟩
      refine ⟨by decide, ?_⟩
      have hd : (digs V n)[i]'(by omega) = 48 + V / p % 10 := by
        rw [digs_at, ← hp]
      have hpush := BR.push (b := 48 + V / p % 10) ⟨b1, b2, b3, b4⟩ (by omega) (by omega)
      have k := ih (i + 1) (p / 10) (g_row g1 (bz (48 + V / p % 10))) (S_row g1 S1 (bz (48 + V / p % 10))) j4 (by omega) (by omega) (by omega) (by
        by_cases hi2 : i + 1 < n
        · rw [if_pos hi2, hp, show n - 1 - i = (n - 1 - (i + 1)) + 1 by omega, Nat.pow_succ, Nat.mul_div_cancel _ (by decide)]
        · rw [if_neg hi2, hp, show n - 1 - i = 0 by omega]) (hM.push _) (by rw [take_push (by omega), hd]; exact hpush)
      refine x_go.back mn_R_digits (x_go.run mn_R_digits 2 ?_)
      have e2 : bz (48 + V / p % 10) = (((48 : Int32) + (Int32.ofNat V / Int32.ofNat p - Int32.ofNat V / Int32.ofNat p / 10 * 10)).toInt8.toInt32).toInt8.toInt32 := by
        rw [ed]
        simp [bz]
      rw [← ep, e2] at k
      exact k
  have lb : ∀ r i (g1 : Nat → Nat → Int32) (S1 : XH), 9 ≤ n → n - 9 - i = r → i ≤ n - 9 → Mb g S g1 S1 → BR g1 (L ++ (digs V n).take i) →
      x_go b_R_digits P 33 [some (xv_r 15 0), some (xv_i (Int32.ofNat V)), some (xv_i (Int32.ofNat n)), some (xv_i (Int32.ofNat 100000000)), some (xv_i (Int32.ofNat (9 + i)))] [] S1 0 0 := by
    intro r
    induction r with
    | zero =>
      intro i g1 S1 h9 hr hi hM hb
      have e : i = n - 9 := by omega
      refine x_go.run mn_R_digits 3 ?_
      refine ⟨fun _ => ?_, fun z => (z ((z_le (by omega) (by omega)).mpr (by omega))).elim⟩
      exact lc _ i 100000000 g1 S1 _ rfl (by omega) (fun _ => by omega) (by rw [if_pos (by omega), show n - 1 - i = 8 by omega]) hM hb
    | succ r ih =>
      intro i g1 S1 h9 hr hi hM hb
      have hlen : (L ++ (digs V n).take i).length = L.length + i := by
        rw [List.length_append, List.length_take, hdl]
        omega
      obtain ⟨b1, b2, b3, b4⟩ := hb
      refine x_go.run mn_R_digits 40 ?_
      refine ⟨fun z => ?_, fun _ => ?_⟩
      · exfalso
        have := (z_le (by omega) (by omega)).mp z
        omega
      refine ⟨nl rfl, _, _, hM.1.1, rfl, ?_⟩
      refine ⟨nl rfl, _, _, hM.1.1, rfl, ?_⟩
      refine ⟨trivial, _, hM.1.1, nl rfl, nl rfl, ?_⟩
      refine ⟨_, _, hM.1.r17 _, nl rfl, (by show vp_in (g1 30 0) 64; rw [b1]; exact z_in (by omega) (by decide)), ?_⟩
      have hd : (digs V n)[i]'(by omega) = 48 := by
        rw [digs_at]
        have : V / 10 ^ (n - 1 - i) = 0 := by
          refine Nat.div_eq_of_lt (Nat.lt_of_lt_of_le hV ?_)
          have : 10 ^ 9 ≤ 10 ^ (n - 1 - i) := Nat.pow_le_pow_right (by decide) (by omega)
          simpa using this
        rw [this]
      have hpush := BR.push (b := 48) ⟨b1, b2, b3, b4⟩ (by omega) (by decide)
      have k := ih (i + 1) (g_row g1 (bz 48)) (S_row g1 S1 (bz 48)) h9 (by omega) (by omega) (hM.push _) (by rw [take_push (by omega), hd]; exact hpush)
      rw [← Nat.add_assoc, ← z_suc (9 + i)] at k
      exact x_go.back mn_R_digits (x_go.run mn_R_digits 2 k)
  have ld : ∀ r k, min n 9 - k = r → 1 ≤ k → k ≤ min n 9 →
      x_go b_R_digits P 5 [some (xv_r 15 0), some (xv_i (Int32.ofNat V)), some (xv_i (Int32.ofNat n)), some (xv_i (Int32.ofNat (10 ^ (k - 1)))), some (xv_i (Int32.ofNat k))] [] S 0 0 := by
    intro r
    induction r with
    | zero =>
      intro k hr hk hkn
      have ek : k = min n 9 := by omega
      have after : x_go b_R_digits P 29 [some (xv_r 15 0), some (xv_i (Int32.ofNat V)), some (xv_i (Int32.ofNat n)), some (xv_i (Int32.ofNat (10 ^ (k - 1)))), some (xv_i (Int32.ofNat k))] [] S 0 0 := by
        by_cases h9 : 9 ≤ n
        · rw [show k - 1 = 8 by omega]
          have := lb _ 0 g S h9 rfl (by omega) (Mb.rf hR) (by rw [List.take_zero, List.append_nil]; exact hB)
          exact x_go.run mn_R_digits 2 this
        · refine x_go.run mn_R_digits 5 ?_
          refine ⟨fun _ => ?_, fun z => (z ((z_le (b := 9) (by omega) (by decide)).mpr (by omega))).elim⟩
          exact lc _ 0 _ g S _ rfl (by omega) (fun _ => by omega) (by rw [if_pos (by omega), show k - 1 = n - 1 - 0 by omega]) (Mb.rf hR) (by rw [List.take_zero, List.append_nil]; exact hB)
      refine x_go.run mn_R_digits 10 ?_
      refine ⟨fun _ => x_go.back mn_R_digits after, fun z => ?_⟩
      refine ⟨fun _ => x_go.back mn_R_digits after, fun z' => ?_⟩
      exfalso
      have y1 : ¬ n ≤ k := fun q => z ((z_le (by omega) (by omega)).mpr q)
      have y2 : ¬ 9 ≤ k := fun q => z' ((z_le (a := 9) (by decide) (by omega)).mpr q)
      omega
    | succ r ih =>
      intro k hr hk hkn
      refine x_go.run mn_R_digits 12 ?_
      refine ⟨fun z => ?_, fun _ => ?_⟩
      · exfalso
        have := (z_le (by omega) (by omega)).mp z
        omega
      refine ⟨fun z => ?_, fun _ => ?_⟩
      · exfalso
        have := (z_le (a := 9) (by decide) (by omega)).mp z
        omega
      have := ih (k + 1) (by omega) (by omega) (by omega)
      rw [show k + 1 - 1 = k - 1 + 1 by omega, Nat.pow_succ, ← z_mul, ← z_suc k] at this
      exact this
  exact x_go.run mn_R_digits 4 (ld _ 1 rfl (by omega) (by omega))
