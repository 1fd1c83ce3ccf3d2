def isFb (ty f : Int32) : Bool := f == 11 || f == 41 || (f == 2 && ty == 200) || (f == 4 && (ty == 200 || ty == 420 || ty == 500)) || (f == 39 && (ty == 210 || ty == 510))
def b2i (b : Bool) : Int32 := if b = true then 1 else 0
theorem r_isField {S : XH} {P : XP} {o : XV} {ty f : Int32} (h : P (.inl (some (xv_i (b2i (isFb ty f))))) S) : Y_R_isField 0 0 [o, xv_i ty, xv_i f] S P := by
  have h : ∀ v : Int32, (v = 0 ∨ v = 1) → v = b2i (isFb ty f) → (v = 0 ∨ v = 1) ∧ P (.inl (some (xv_i v))) S := fun v hv e => ⟨hv, by rw [e]; exact h⟩
  have one : isFb ty f = true → (1 : Int32) = b2i (isFb ty f) := fun q => by rw [q]; rfl
  have zero : isFb ty f = false → (0 : Int32) = b2i (isFb ty f) := fun q => by rw [q]; rfl
  refine x_go.run mn_R_isField 40 ?_
  refine ⟨fun c => h 1 (Or.inr rfl) (one ?_), fun c1 => ?_⟩
  · have c : f = 11 := c
    simp [isFb, c]
  have c1 : ¬ f = 11 := c1
  refine ⟨fun c2 => ?_, fun c2 => h 1 (Or.inr rfl) (one ?_)⟩
  rotate_left
  · have c : f = 41 := Classical.not_not.mp c2
    simp [isFb, c]
  have c2 : ¬ f = 41 := c2
  refine ⟨fun c3 => ?_, fun c3 => ?_⟩
  rotate_left
  · have c3 : f = 2 := Classical.not_not.mp c3
    refine ⟨fun c => h 0 (Or.inl rfl) (zero ?_), fun c => h 1 (Or.inr rfl) (one ?_)⟩
    · have c : ¬ ty = 200 := c
      simp [isFb, c3, c]
    · have c : ty = 200 := Classical.not_not.mp c
      simp [isFb, c3, c]
  have c3 : ¬ f = 2 := c3
  refine ⟨fun c4 => ?_, fun c4 => ?_⟩
  rotate_left
  · have c4 : f = 4 := Classical.not_not.mp c4
    refine ⟨fun c => h 1 (Or.inr rfl) (one ?_), fun d1 => ?_⟩
    · have c : ty = 200 := c
      simp [isFb, c4, c]
    refine ⟨fun c => h 1 (Or.inr rfl) (one ?_), fun d2 => ?_⟩
    · have c : ty = 420 := c
      simp [isFb, c4, c]
    refine ⟨fun c => h 0 (Or.inl rfl) (zero ?_), fun c => h 1 (Or.inr rfl) (one ?_)⟩
    · have c : ¬ ty = 500 := c
      have d1 : ¬ ty = 200 := d1
      have d2 : ¬ ty = 420 := d2
      simp [isFb, c4, c, d1, d2]
    · have c : ty = 500 := Classical.not_not.mp c
      simp [isFb, c4, c]
  have c4 : ¬ f = 4 := c4
  refine ⟨fun c5 => h 0 (Or.inl rfl) (zero ?_), fun c5 => ?_⟩
  · have c5 : ¬ f = 39 := c5
    simp [isFb, c1, c2, c3, c4, c5]
  have c5 : f = 39 := Classical.not_not.mp c5
  refine ⟨fun c => h 1 (Or.inr rfl) (one ?_), fun d1 => ?_⟩
  · have c : ty = 210 := c
    simp [isFb, c5, c]
  refine ⟨fun c => h 0 (Or.inl rfl) (zero ?_), fun c => h 1 (Or.inr rfl) (one ?_)⟩
  · have c : ¬ ty = 510 := c
    have d1 : ¬ ty = 210 := d1
    simp [isFb, c5, c, d1]
  · have c : ty = 510 := Classical.not_not.mp c
    simp [isFb, c5, c]
def b2n (b : Bool) : Nat := if b = true then 1 else 0
theorem b2n_le (b : Bool) : b2n b ≤ 1 := by cases b <;> decide
theorem b2i_n (b : Bool) : b2i b = Int32.ofNat (b2n b) := by cases b <;> rfl
/-- byte b of the bitmap, its first i bits -/
def bmN (ty : Int32) (b i : Nat) : Nat := (List.range i).foldl (fun v j => 2 * v + b2n (isFb ty (Int32.ofNat (8 * b + j + 1)))) 0
theorem bmN_lt (ty : Int32) (b : Nat) : ∀ i, bmN ty b i < 2 ^ i
  | 0 => Nat.zero_lt_one
  | i + 1 => by
    have h := bmN_lt ty b i
    have e : bmN ty b (i + 1) = 2 * bmN ty b i + b2n (isFb ty (Int32.ofNat (8 * b + i + 1))) := range_suc _ _ _
    have h1 := b2n_le (isFb ty (Int32.ofNat (8 * b + i + 1)))
    rw [e, Nat.pow_succ]
    omega
def lay0 (ty : Nat) : List Nat := digs ty 4
def lay1 (ty : Nat) : List Nat := lay0 ty ++ (List.range 8).map (fun b => bmN (Int32.ofNat ty) b 8)
def lay2 (ty acc : Nat) : List Nat := lay1 ty ++ (if isFb (Int32.ofNat ty) 2 = true then digs 3 2 ++ digs acc 3 else [])
def lay3 (ty acc amt : Nat) : List Nat := lay2 ty acc ++ (if isFb (Int32.ofNat ty) 4 = true then digs amt 12 else [])
def lay4 (ty acc amt tr : Nat) : List Nat := lay3 ty acc amt ++ digs tr 6
def lay5 (ty acc amt tr ans : Nat) : List Nat := lay4 ty acc amt tr ++ (if isFb (Int32.ofNat ty) 39 = true then digs ans 2 else [])
/-- the bytes of a MESSAGE -/
def lay6 (ty acc amt tr ans mach : Nat) : List Nat := lay5 ty acc amt tr ans ++ digs mach 8
theorem lay0_len (ty : Nat) : (lay0 ty).length = 4 := digs_len _ _
theorem lay1_len (ty : Nat) : (lay1 ty).length = 12 := by simp [lay1, lay0_len]
theorem lay2_len (ty acc : Nat) : (lay2 ty acc).length ≤ 17 := by
  unfold lay2
  rw [List.length_append, lay1_len]
  split
  · rw [List.length_append, digs_len, digs_len]
    omega
  · simp
theorem lay3_len (ty acc amt : Nat) : (lay3 ty acc amt).length ≤ 29 := by
  unfold lay3
  have := lay2_len ty acc
  rw [List.length_append]
  split
  · rw [digs_len]
    omega
  · simp
    omega
theorem lay4_len (ty acc amt tr : Nat) : (lay4 ty acc amt tr).length ≤ 35 := by
  unfold lay4
  have := lay3_len ty acc amt
  rw [List.length_append, digs_len]
  omega
theorem lay5_len (ty acc amt tr ans : Nat) : (lay5 ty acc amt tr ans).length ≤ 37 := by
  unfold lay5
  have := lay4_len ty acc amt tr
  rw [List.length_append]
  split
  · rw [digs_len]
    omega
  · simp
    omega
set_option maxHeartbeats 4000000 in
theorem r_lay {d : DS} {g : Nat → Nat → Int32} {S : XH} {P : XP} {k ty acc amt tr ans mach : Nat} (hR : RM g S) (hD : MD d g) (hk : k < (d.2 5).length) (he : (d.2 5)[k] = (Int32.ofNat ty, Int32.ofNat mach, Int32.ofNat tr, Int32.ofNat acc, Int32.ofNat amt, Int32.ofNat ans))
    (h1 : ty < 1000000000) (h2 : mach < 1000000000) (h3 : tr < 1000000000) (h4 : acc < 1000000000) (h5 : amt < 1000000000) (h6 : ans < 1000000000)
    (h : ∀ g' S', Mb g S g' S' → BR g' (lay6 ty acc amt tr ans mach) → P (.inl none) S') : Y_R_lay 0 0 [xv_r 15 0, xv_i (Int32.ofNat k)] S P := by
  have hM2 := hD.2.2.2.2.1
  have k3 : k < 3000 := by omega
  obtain ⟨m1, m2, m3, m4, m5, m6⟩ := hD.2.2.2.2.2 k hk
  rw [he] at m1 m2 m3 m4 m5 m6
  dsimp only at m1 m2 m3 m4 m5 m6
  have col : ∀ {g1 : Nat → Nat → Int32} {S1 : XH}, Mb g S g1 S1 → g1 19 k = Int32.ofNat ty ∧ g1 24 k = Int32.ofNat mach ∧ g1 22 k = Int32.ofNat tr ∧ g1 20 k = Int32.ofNat acc ∧ g1 21 k = Int32.ofNat amt ∧ g1 23 k = Int32.ofNat ans := fun {g1 S1} hM => by
    rw [hM.2.1 19 (by decide) (by decide), hM.2.1 24 (by decide) (by decide), hM.2.1 22 (by decide) (by decide), hM.2.1 20 (by decide) (by decide), hM.2.1 21 (by decide) (by decide), hM.2.1 23 (by decide) (by decide)]
    exact ⟨m1, m2, m3, m4, m5, m6⟩
  -- the end: the machine's number
  have p193 : ∀ (L : List Nat) (j2 j3 j4 : Option XV) (g1 : Nat → Nat → Int32) (S1 : XH), Mb g S g1 S1 → BR g1 L → L = lay5 ty acc amt tr ans →
      x_go b_R_lay P 193 [some (xv_r 15 0), some (xv_i (Int32.ofNat k)), j2, j3, j4] [] S1 0 0 := by
    intro L j2 j3 j4 g1 S1 hM hB hL
    obtain ⟨c1, c2, c3, c4, c5, c6⟩ := col hM
    have hlen := lay5_len ty acc amt tr ans
    refine x_go.run mn_R_lay 20 ?_
    refine ⟨nl rfl, _, _, hM.1.1, rfl, ?_⟩
    refine ⟨_, _, hM.1.2.1 24 rfl, z_in (by exact k3) (by decide), ?_⟩
    rw [z_nat (by omega), c2]
    refine ⟨nl rfl, ⟨_, hM.1.1⟩, rfl, nl rfl, 0, 0, nl rfl, nl rfl, r_digits (n := 8) hM.1 hB h2 (by decide) (by decide) (by rw [hL]; omega) fun g2 S2 a b => ?_⟩
    exact h g2 S2 (hM.tr a) (by rw [hL] at b; exact b)
  have p167 : ∀ (j2 j3 j4 : Option XV) (g1 : Nat → Nat → Int32) (S1 : XH), Mb g S g1 S1 → BR g1 (lay4 ty acc amt tr) →
      x_go b_R_lay P 167 [some (xv_r 15 0), some (xv_i (Int32.ofNat k)), j2, j3, j4] [] S1 0 0 := by
    intro j2 j3 j4 g1 S1 hM hB
    obtain ⟨c1, c2, c3, c4, c5, c6⟩ := col hM
    have hlen := lay4_len ty acc amt tr
    refine x_go.run mn_R_lay 20 ?_
    refine ⟨nl rfl, _, _, hM.1.1, rfl, ?_⟩
    refine ⟨_, _, hM.1.2.1 19 rfl, z_in (by exact k3) (by decide), ?_⟩
    rw [z_nat (by omega), c1]
    refine ⟨nl rfl, ⟨_, hM.1.1⟩, rfl, nl rfl, 0, 0, nl rfl, nl rfl, r_isField ?_⟩
    cases hb : isFb (Int32.ofNat ty) 39 with
    | false =>
      refine ⟨fun _ => ?_, fun z => (z rfl).elim⟩
      refine x_go.back mn_R_lay (p193 _ _ _ _ g1 S1 hM hB ?_)
      unfold lay5
      rw [if_neg (by rw [hb]; decide), List.append_nil]
    | true =>
      refine ⟨fun z => absurd z (by decide), fun _ => ?_⟩
      refine ⟨nl rfl, _, _, hM.1.1, rfl, ?_⟩
      refine ⟨_, _, hM.1.2.1 23 rfl, z_in (by exact k3) (by decide), ?_⟩
      rw [z_nat (by omega), c6]
      refine ⟨nl rfl, ⟨_, hM.1.1⟩, rfl, nl rfl, 0, 0, nl rfl, nl rfl, r_digits (n := 2) hM.1 hB h6 (by decide) (by decide) (by omega) fun g2 S2 a b => ?_⟩
      refine x_go.back mn_R_lay (p193 _ _ _ _ g2 S2 (hM.tr a) b ?_)
      unfold lay5
      rw [if_pos hb]
  have p155 : ∀ (L : List Nat) (j2 j3 j4 : Option XV) (g1 : Nat → Nat → Int32) (S1 : XH), Mb g S g1 S1 → BR g1 L → L = lay3 ty acc amt →
      x_go b_R_lay P 155 [some (xv_r 15 0), some (xv_i (Int32.ofNat k)), j2, j3, j4] [] S1 0 0 := by
    intro L j2 j3 j4 g1 S1 hM hB hL
    obtain ⟨c1, c2, c3, c4, c5, c6⟩ := col hM
    have hlen := lay3_len ty acc amt
    refine x_go.run mn_R_lay 7 ?_
    refine ⟨nl rfl, _, _, hM.1.1, rfl, ?_⟩
    refine ⟨_, _, hM.1.2.1 22 rfl, z_in (by exact k3) (by decide), ?_⟩
    rw [z_nat (by omega), c3]
    refine ⟨nl rfl, ⟨_, hM.1.1⟩, rfl, nl rfl, 0, 0, nl rfl, nl rfl, r_digits (n := 6) hM.1 hB h3 (by decide) (by decide) (by rw [hL]; omega) fun g2 S2 a b => ?_⟩
    exact p167 _ _ _ g2 S2 (hM.tr a) (by rw [hL] at b; exact b)
  have p129 : ∀ (L : List Nat) (j2 j3 j4 : Option XV) (g1 : Nat → Nat → Int32) (S1 : XH), Mb g S g1 S1 → BR g1 L → L = lay2 ty acc →
      x_go b_R_lay P 129 [some (xv_r 15 0), some (xv_i (Int32.ofNat k)), j2, j3, j4] [] S1 0 0 := by
    intro L j2 j3 j4 g1 S1 hM hB hL
    obtain ⟨c1, c2, c3, c4, c5, c6⟩ := col hM
    have hlen := lay2_len ty acc
    refine x_go.run mn_R_lay 20 ?_
    refine ⟨nl rfl, _, _, hM.1.1, rfl, ?_⟩
    refine ⟨_, _, hM.1.2.1 19 rfl, z_in (by exact k3) (by decide), ?_⟩
    rw [z_nat (by omega), c1]
    refine ⟨nl rfl, ⟨_, hM.1.1⟩, rfl, nl rfl, 0, 0, nl rfl, nl rfl, r_isField ?_⟩
    cases hb : isFb (Int32.ofNat ty) 4 with
    | false =>
      refine ⟨fun _ => ?_, fun z => (z rfl).elim⟩
      refine x_go.back mn_R_lay (p155 _ _ _ _ g1 S1 hM hB ?_)
      unfold lay3
      rw [if_neg (by rw [hb]; decide), List.append_nil, hL]
    | true =>
      refine ⟨fun z => absurd z (by decide), fun _ => ?_⟩
      refine ⟨nl rfl, _, _, hM.1.1, rfl, ?_⟩
      refine ⟨_, _, hM.1.2.1 21 rfl, z_in (by exact k3) (by decide), ?_⟩
      rw [z_nat (by omega), c5]
      refine ⟨nl rfl, ⟨_, hM.1.1⟩, rfl, nl rfl, 0, 0, nl rfl, nl rfl, r_digits (n := 12) hM.1 hB h5 (by decide) (by decide) (by rw [hL]; omega) fun g2 S2 a b => ?_⟩
      refine x_go.back mn_R_lay (p155 _ _ _ _ g2 S2 (hM.tr a) b ?_)
      unfold lay3
      rw [if_pos hb, hL]
  have p98 : ∀ (j2 j3 j4 : Option XV) (g1 : Nat → Nat → Int32) (S1 : XH), Mb g S g1 S1 → BR g1 (lay1 ty) →
      x_go b_R_lay P 98 [some (xv_r 15 0), some (xv_i (Int32.ofNat k)), j2, j3, j4] [] S1 0 0 := by
    intro j2 j3 j4 g1 S1 hM hB
    obtain ⟨c1, c2, c3, c4, c5, c6⟩ := col hM
    have hlen := lay1_len ty
    refine x_go.run mn_R_lay 30 ?_
    refine ⟨nl rfl, _, _, hM.1.1, rfl, ?_⟩
    refine ⟨_, _, hM.1.2.1 19 rfl, z_in (by exact k3) (by decide), ?_⟩
    rw [z_nat (by omega), c1]
    refine ⟨nl rfl, ⟨_, hM.1.1⟩, rfl, nl rfl, 0, 0, nl rfl, nl rfl, r_isField ?_⟩
    cases hb : isFb (Int32.ofNat ty) 2 with
    | false =>
      refine ⟨fun _ => ?_, fun z => (z rfl).elim⟩
      refine x_go.back mn_R_lay (p129 _ _ _ _ g1 S1 hM hB ?_)
      unfold lay2
      rw [if_neg (by rw [hb]; decide), List.append_nil]
    | true =>
      refine ⟨fun z => absurd z (by decide), fun _ => ?_⟩
      refine ⟨nl rfl, ⟨_, hM.1.1⟩, rfl, nl rfl, 0, 0, nl rfl, nl rfl, r_digits (V := 3) (n := 2) hM.1 hB (by decide) (by decide) (by decide) (by omega) fun g2 S2 a b => ?_⟩
      have hM2 := hM.tr a
      refine ⟨nl rfl, _, _, hM2.1.1, rfl, ?_⟩
      refine ⟨_, _, hM2.1.2.1 20 rfl, z_in (by exact k3) (by decide), ?_⟩
      rw [z_nat (by omega), (col hM2).2.2.2.1]
      refine ⟨nl rfl, ⟨_, hM2.1.1⟩, rfl, nl rfl, 0, 0, nl rfl, nl rfl, r_digits (n := 3) hM2.1 b h4 (by decide) (by decide) (by rw [List.length_append, digs_len]; omega) fun g3 S3 a3 b3 => ?_⟩
      refine x_go.back mn_R_lay (p129 _ _ _ _ g3 S3 (hM2.tr a3) b3 ?_)
      unfold lay2
      rw [if_pos hb, List.append_assoc]
  -- the bitmap
  have pb : ∀ r b (j3 j4 : Option XV) (g1 : Nat → Nat → Int32) (S1 : XH), 8 - b = r → b ≤ 8 → Mb g S g1 S1 → BR g1 (lay0 ty ++ ((List.range 8).map (fun b => bmN (Int32.ofNat ty) b 8)).take b) →
      x_go b_R_lay P 18 [some (xv_r 15 0), some (xv_i (Int32.ofNat k)), some (xv_i (Int32.ofNat b)), j3, j4] [] S1 0 0 := by
    intro r
    induction r with
    | zero =>
      intro b j3 j4 g1 S1 hr hb hM hB
      have e : b = 8 := by omega
      subst e
      refine x_go.run mn_R_lay 3 ?_
      refine ⟨fun _ => ?_, fun z => (z (by decide)).elim⟩
      exact p98 _ _ _ g1 S1 hM (by rw [List.take_of_length_le (by simp)] at hB; exact hB)
    | succ r ih =>
      intro b j3 j4 g1 S1 hr hb hM hB
      have hb8 : b < 8 := by omega
      have hl0 := lay0_len ty
      obtain ⟨c1, c2, c3, c4, c5, c6⟩ := col hM
      have hlen : (lay0 ty ++ ((List.range 8).map (fun b => bmN (Int32.ofNat ty) b 8)).take b).length = 4 + b := by
        rw [List.length_append, hl0, List.length_take, List.length_map, List.length_range]
        omega
      have inner : ∀ q i, 8 - i = q → i ≤ 8 → x_go b_R_lay P 29 [some (xv_r 15 0), some (xv_i (Int32.ofNat k)), some (xv_i (Int32.ofNat b)), some (xv_i (Int32.ofNat (bmN (Int32.ofNat ty) b i))), some (xv_i (Int32.ofNat i))] [] S1 0 0 := by
        intro q
        induction q with
        | zero =>
          intro i hq hi
          have e : i = 8 := by omega
          subst e
          have hlt := bmN_lt (Int32.ofNat ty) b 8
          have hpush := BR.push (b := bmN (Int32.ofNat ty) b 8) hB (by omega) hlt
          obtain ⟨b1, b2, b3, b4⟩ := hB
          have kk := ih (b + 1) (some (xv_i (Int32.ofNat (bmN (Int32.ofNat ty) b 8)))) (some (xv_i (Int32.ofNat 8))) (g_row g1 (bz (bmN (Int32.ofNat ty) b 8))) (S_row g1 S1 (bz (bmN (Int32.ofNat ty) b 8))) (by omega) (by omega) (hM.push _) (by
            rw [take_push (by simp; omega)]
            simpa using hpush)
          rw [← z_suc b] at kk
          refine x_go.run mn_R_lay 30 ?_
          refine ⟨fun _ => ?_, fun z => (z (by decide)).elim⟩
          refine ⟨nl rfl, _, _, hM.1.1, rfl, ?_⟩
          refine ⟨nl rfl, _, _, hM.1.1, rfl, ?_⟩
          refine ⟨trivial, _, hM.1.1, nl rfl, nl rfl, ?_⟩
          refine ⟨_, _, hM.1.r17 _, nl rfl, (by show vp_in (g1 30 0) 64; rw [b1]; exact z_in (by omega) (by decide)), ?_⟩
          have e2 : bz (bmN (Int32.ofNat ty) b 8) = ((Int32.ofNat (bmN (Int32.ofNat ty) b 8)).toInt8.toInt32).toInt8.toInt32 := by simp [bz]
          rw [e2] at kk
          exact x_go.back mn_R_lay (x_go.run mn_R_lay 2 kk)
        | succ q ihq =>
          intro i hq hi
          have hnx := ihq (i + 1) (by omega) (by omega)
          have e : bmN (Int32.ofNat ty) b (i + 1) = 2 * bmN (Int32.ofNat ty) b i + b2n (isFb (Int32.ofNat ty) (Int32.ofNat (8 * b + i + 1))) := range_suc _ _ _
          rw [e, ← z_suc i, ← z_add, ← z_mul 2] at hnx
          refine x_go.run mn_R_lay 30 ?_
          refine ⟨fun z => ?_, fun _ => ?_⟩
          · exfalso
            have := (z_le (a := 8) (by decide) (by omega)).mp z
            omega
          refine ⟨nl rfl, _, _, hM.1.1, rfl, ?_⟩
          refine ⟨_, _, hM.1.2.1 19 rfl, z_in (by exact k3) (by decide), ?_⟩
          rw [z_nat (by omega), c1]
          refine ⟨nl rfl, ⟨_, hM.1.1⟩, rfl, nl rfl, 0, 0, nl rfl, nl rfl, r_isField ?_⟩
          have ef : (8 : Int32) * Int32.ofNat b + Int32.ofNat i + 1 = Int32.ofNat (8 * b + i + 1) := by
            rw [← z_add, ← z_add, ← z_mul]
            rfl
          show x_aft _ P [] _ _ _ _ _ (.inl (some (xv_i (b2i (isFb (Int32.ofNat ty) ((8 : Int32) * Int32.ofNat b + Int32.ofNat i + 1)))))) S1
          rw [ef]
          cases hbb : isFb (Int32.ofNat ty) (Int32.ofNat (8 * b + i + 1)) with
          | false =>
            rw [hbb] at hnx
            refine ⟨fun _ => ?_, fun z => (z rfl).elim⟩
            exact x_go.back mn_R_lay (x_go.run mn_R_lay 5 hnx)
          | true =>
            rw [hbb] at hnx
            refine ⟨fun z => absurd z (by decide), fun _ => ?_⟩
            exact x_go.back mn_R_lay (x_go.run mn_R_lay 6 hnx)
      refine x_go.run mn_R_lay 7 ?_
      refine ⟨fun z => ?_, fun _ => ?_⟩
      · exfalso
        have := (z_le (a := 8) (by decide) (by omega)).mp z
        omega
      exact inner _ 0 rfl (by decide)
  refine x_go.run mn_R_lay 12 ?_
  refine ⟨trivial, _, hR.1, nl rfl, nl rfl, ?_⟩
  have hM0 : Mb g S (gs g 30 (upd (g 30) 0 0)) (x_up S 15 0 (.inl (10, (mfl g).set 30 (xv_i 0)))) := ⟨hR.put (n := 30) 0 (Or.inr (Or.inr (Or.inr rfl))), fun k a b => gs_ne b, fm.rf.up (by decide) (by decide), x_up_k (by decide)⟩
  have hB0 : BR (gs g 30 (upd (g 30) 0 0)) [] := ⟨by rw [gs_self, upd_self]; rfl, by decide, (fun j hj => by cases hj), (fun b hb => by cases hb)⟩
  refine ⟨nl rfl, _, _, hM0.1.1, rfl, ?_⟩
  refine ⟨_, _, hM0.1.2.1 19 rfl, z_in (by exact k3) (by decide), ?_⟩
  rw [z_nat (by omega), (col hM0).1]
  refine ⟨nl rfl, ⟨_, hM0.1.1⟩, rfl, nl rfl, 0, 0, nl rfl, nl rfl, r_digits (n := 4) hM0.1 hB0 h1 (by decide) (by decide) (by decide) fun g2 S2 a b => ?_⟩
  exact x_go.back mn_R_lay (x_go.run mn_R_lay 2 (pb _ 0 none none g2 S2 rfl (by decide) (hM0.tr a) (by rw [List.take_zero, List.append_nil]; exact b)))
/-- a byte of a MESSAGE, or -1 -/
def byteOf (L : List Nat) (i : Nat) : Int32 := if h : i < L.length then Int32.ofNat L[i] else -1
theorem lay6_len (ty acc amt tr ans mach : Nat) : (lay6 ty acc amt tr ans mach).length ≤ 45 := by
  unfold lay6
  have := lay5_len ty acc amt tr ans
  rw [List.length_append, digs_len]
  omega
set_option maxHeartbeats 4000000 in
theorem r_byteAt {d : DS} {g : Nat → Nat → Int32} {S : XH} {P : XP} {k i : Int32} (hR : RM g S) (hD : MD d g) (hX : RX S)
    (hm : ∀ e ∈ d.2 5, ∃ ty mach tr acc amt ans, e = (Int32.ofNat ty, Int32.ofNat mach, Int32.ofNat tr, Int32.ofNat acc, Int32.ofNat amt, Int32.ofNat ans) ∧ ty < 1000000000 ∧ mach < 1000000000 ∧ tr < 1000000000 ∧ acc < 1000000000 ∧ amt < 1000000000 ∧ ans < 1000000000)
    (hb : ¬ (0 ≤ k ∧ k < Int32.ofNat (d.2 5).length ∧ 0 ≤ i) → mC d 1 S (fun S' => P (.inl (some (xv_i 0))) S'))
    (ho : ∀ K I ty mach tr acc amt ans (hK : K < (d.2 5).length), k = Int32.ofNat K → i = Int32.ofNat I → I < 2147483648 → (d.2 5)[K] = (Int32.ofNat ty, Int32.ofNat mach, Int32.ofNat tr, Int32.ofNat acc, Int32.ofNat amt, Int32.ofNat ans) → ty < 1000000000 → mach < 1000000000 → tr < 1000000000 → acc < 1000000000 → amt < 1000000000 → ans < 1000000000 → mC d 0 S (fun S' => P (.inl (some (xv_i (byteOf (lay6 ty acc amt tr ans mach) I)))) S')) : Y_R_byteAt 0 0 [xv_r 15 0, xv_i k, xv_i i] S P := by
  have hM2 := hD.2.2.2.2.1
  have fin : ∀ (th : Int32), (0 < th → mC d th S (fun S' => P (.inl (some (xv_i 0))) S')) → (th ≤ 0 → th = 0 ∧ ∃ K I, K < (d.2 5).length ∧ k = Int32.ofNat K ∧ i = Int32.ofNat I ∧ I < 2147483648) →
      x_go b_R_byteAt P 24 [some (xv_r 15 0), some (xv_i k), some (xv_i i)] [xv_i th, xv_r 15 0] S 0 0 := by
    intro th hv hz
    refine x_go.run mn_R_byteAt 40 ?_
    refine ⟨trivial, _, hR.1, nl rfl, nl rfl, ?_⟩
    obtain ⟨g1, a1, a2, a3, a4, a5, a6, a7⟩ := thr hR hD hX th
    show x_run b_R_byteAt P (x_go b_R_byteAt P) 39 27 [some (xv_r 15 0), some (xv_i k), some (xv_i i)] [] (x_up S 15 0 (.inl (10, (mfl g).set 26 (xv_i th)))) 0 0
    generalize x_up S 15 0 (.inl (10, (mfl g).set 26 (xv_i th))) = S2 at a1 a5 a6 a7 ⊢
    refine ⟨nl rfl, _, _, a1.1, rfl, ?_⟩
    rw [a3]
    refine ⟨fun q => ?_, fun q => hv (Int32.not_le.mp q) g1 S2 a1 a2 a3 a5 a6⟩
    obtain ⟨v0, K, I, hK, rfl, rfl, hI⟩ := hz q
    have a3 : g1 26 0 = 0 := a3.trans v0
    obtain ⟨ty, mach, tr, acc, amt, ans, he, q1, q2, q3, q4, q5, q6⟩ := hm _ (List.getElem_mem hK)
    have h := ho K I ty mach tr acc amt ans hK rfl rfl hI he q1 q2 q3 q4 q5 q6
    refine ⟨nl rfl, ⟨_, a1.1⟩, rfl, nl rfl, 0, 0, nl rfl, nl rfl, r_lay a1 a2 hK he q1 q2 q3 q4 q5 q6 fun g3 S3 b1 b2 => ?_⟩
    have hd3 : MD d g3 := by
      obtain ⟨z1, z2, z3, z4⟩ := a2
      refine ⟨fun n hn => ?_, ?_, fun w hw => (z3 w hw).keep fun n hn => b1.2.1 n (by omega) (by omega), z4.keep fun n hn hn' => b1.2.1 n (by omega) (by omega)⟩
      · rw [b1.2.1 n (by rintro rfl; cases hn) (by rintro rfl; cases hn)]
        exact z1 n hn
      · rw [b1.2.1 9 (by decide) (by decide)]
        exact z2
    have hlen := lay6_len ty acc amt tr ans mach
    have fin2 : P (.inl (some (xv_i (byteOf (lay6 ty acc amt tr ans mach) I)))) S3 := h g3 S3 b1.1 hd3 (by rw [b1.2.1 26 (by decide) (by decide)]; exact a3) (a5.tr b1.2.2.1) (a6.eq b1.2.2.2)
    unfold byteOf at fin2
    refine ⟨nl rfl, _, _, b1.1.1, rfl, ?_⟩
    rw [b2.1]
    refine ⟨fun z => ?_, fun z => ?_⟩
    · have z := (z_le (by omega) hI).mp z
      rw [dif_neg (by omega)] at fin2
      exact fin2
    · have z : I < (lay6 ty acc amt tr ans mach).length := (z_lt hI (by omega)).mp (Int32.not_le.mp z)
      rw [dif_pos z] at fin2
      refine ⟨nl rfl, _, _, b1.1.1, rfl, ?_⟩
      refine ⟨_, _, b1.1.2.2, z_in (by omega) (by decide), ?_⟩
      rw [z_nat (by omega), b2.2.2.1 I z]
      show P (.inl (some (xv_i (bz _ &&& 255)))) S3
      rw [bz_255 (b2.2.2.2 _ (List.getElem_mem z))]
      exact fin2
  refine x_go.run mn_R_byteAt 40 ?_
  refine ⟨nl rfl, _, _, hR.1, rfl, ?_⟩
  rw [hD.2.2.2.1]
  have e1 : (Int32.ofNat (d.2 5).length - 1).toInt = ((d.2 5).length : Int) - 1 := z_isub (b := 1) (z_toInt (by omega)) rfl (by omega) (by omega)
  have e2 : ∀ x : Int32, x ≤ Int32.ofNat (d.2 5).length - 1 ↔ x < Int32.ofNat (d.2 5).length := fun x => by
    rw [Int32.le_iff_toInt_le, Int32.lt_iff_toInt_lt, e1, z_toInt (by omega)]
    omega
  refine ⟨nl rfl, rfl, nl rfl, 0, 0, Nat.zero_le _, Nat.zero_le _, r_in (fun h1 h2 => ?_) (fun h0 => ?_)⟩
  · refine ⟨fun q => absurd q (by decide), fun _ => ?_⟩
    refine ⟨fun q => x_go.back mn_R_byteAt (x_go.run mn_R_byteAt 1 (fin 1 (fun _ => hb fun z => Int32.not_lt.mpr z.2.2 q) (fun q => absurd q (by decide)))), fun q => ?_⟩
    obtain ⟨K, hK, rfl⟩ := z_of h1
    obtain ⟨I, hI, rfl⟩ := z_of (Int32.not_lt.mp q)
    have h3 := (z_lt hK (by omega)).mp ((e2 _).mp h2)
    exact x_go.back mn_R_byteAt (x_go.run mn_R_byteAt 2 (fin 0 (fun q => absurd q (by decide)) (fun _ => ⟨rfl, K, I, h3, rfl, rfl, hI⟩)))
  · exact ⟨fun _ => x_go.back mn_R_byteAt (x_go.run mn_R_byteAt 1 (fin 1 (fun _ => hb fun z => h0 ⟨z.1, (e2 _).mpr z.2.1⟩) (fun q => absurd q (by decide)))), fun q => (q rfl).elim⟩
