/-! the model's constructor -/
def RI (j : Nat) (fs : List XV) (S0 S : XH) : Prop := S 15 0 = some (.inl (10, fs)) ∧ (∀ n, n < j → ma n = true → S 16 n = some (.inr (0, ml n, .inl (fun _ => 0)))) ∧ (∀ n, j ≤ n → S 16 n = none) ∧ S 17 0 = none ∧ fm S0 S ∧ S 19 = S0 19
theorem RI.step {j k : Nat} {fs : List XV} {S0 S : XH} (h : RI j fs S0 S) (hk : j ≤ k) (hj : ∀ n, j ≤ n → n < k → ma n = false) : RI (k + 1) (fs.set k (xv_r 16 k)) S0 (x_up (x_up S 16 k (.inr (0, ml k, .inl (fun _ => 0)))) 15 0 (.inl (10, fs.set k (xv_r 16 k)))) := by
  obtain ⟨h1, h2, h3, h4, h5, h6⟩ := h
  refine ⟨x_up_self _ _ _ _, fun n hn hm => ?_, fun n hn => ?_, ?_, (h5.up (by decide) (by decide)).up (by decide) (by decide), ?_⟩
  · rw [x_up_ne (by omega)]
    by_cases e : n = k
    · rw [e, x_up_self]
    · rw [x_up_ne (by omega)]
      by_cases e2 : n < j
      · exact h2 n e2 hm
      · have := hj n (by omega) (by omega)
        rw [hm] at this
        cases this
  · rw [x_up_ne (by omega), x_up_ne (by omega)]
    exact h3 n (by omega)
  · rw [x_up_ne (by omega), x_up_ne (by omega)]
    exact h4
  · rw [x_up_k (by decide), x_up_k (by decide)]
    exact h6
theorem RI.set {j k : Nat} {fs : List XV} {S0 S : XH} (h : RI j fs S0 S) (v : XV) : RI j (fs.set k v) S0 (x_up S 15 0 (.inl (10, fs.set k v))) := by
  obtain ⟨h1, h2, h3, h4, h5, h6⟩ := h
  refine ⟨x_up_self _ _ _ _, fun n hn hm => ?_, fun n hn => ?_, ?_, h5.up (by decide) (by decide), ?_⟩
  · rw [x_up_ne (by omega)]
    exact h2 n hn hm
  · rw [x_up_ne (by omega)]
    exact h3 n hn
  · rw [x_up_ne (by omega)]
    exact h4
  · rw [x_up_k (by decide)]
    exact h6
/-- an array's place is free, also behind others' stores -/
theorem RI.free {j k : Nat} {fs : List XV} {S0 S : XH} (h : RI j fs S0 S) (hk : j ≤ k) : S 16 k = none := h.2.2.1 k hk
theorem RI.obj {j k : Nat} {fs : List XV} {S0 S : XH} (h : RI j fs S0 S) {i : Nat} {c : XC} (hk : k ≠ 15) : x_up S k i c 15 0 = some (.inl (10, fs)) := by
  rw [x_up_ne (by omega)]
  exact h.1
def fill (n : Nat) (v : Int32) : Nat → Int32 := fun j => if j < n then v else 0
theorem fill_suc (n : Nat) (v : Int32) : upd (fill n v) n v = fill (n + 1) v := by
  funext j
  unfold upd fill
  by_cases h : j = n
  · rw [if_pos h, if_pos (by omega)]
  · rw [if_neg h]
    by_cases h2 : j < n
    · rw [if_pos h2, if_pos (by omega)]
    · rw [if_neg h2, if_neg (by omega)]
theorem fill_0 (v : Int32) : fill 0 v = fun _ => 0 := by
  funext j
  exact if_neg (by omega)
/-- the state at the start -/
def d0 : DS := (fun n => if n = 8 then fill 5 17 else if n = 9 then fill 1 1 else if n = 10 then fill 4 1 else if n = 13 then fill 16 30 else if n = 17 then fill 4 41 else fun _ => 0, fun _ => [])
set_option maxHeartbeats 8000000 in
theorem r_init {S : XH} {P : XP} (h15 : S 15 0 = some (.inl (10, xD10))) (h16 : ∀ n, S 16 n = none) (h17 : S 17 0 = none)
    (h : ∀ g' S', RM g' S' → MD d0 g' → fm S S' → S' 19 = S 19 → P (.inl none) S') : Y_R_init 27 71131 [xv_r 15 0] S P := by
  have h0 : RI 0 xD10 S S := ⟨h15, fun n hn => by omega, fun n _ => h16 n, h17, fm.rf, rfl⟩
  have notes : ∀ r i (g1 : Nat → Nat → Int32) (S1 : XH) (u w : Nat), 16 - i = r → i ≤ 16 → RM g1 S1 → g1 13 = fill i 30 → (∀ k, k ≠ 13 → k < 26 → g1 k = d0.1 k) → (∀ n, n = 6 ∨ 25 ≤ n → g1 n = fun _ => 0) → fm S S1 → S1 19 = S 19 →
      x_go b_R_init P 277 [some (xv_r 15 0), some (xv_i (Int32.ofNat i))] [] S1 u w := by
    intro r
    induction r with
    | zero =>
      intro i g1 S1 u w hr hi a1 a2 a3 a4 a5 a6
      have e : i = 16 := by omega
      subst e
      refine x_go.run mn_R_init 5 ?_
      refine ⟨fun _ => ?_, fun z => (z (by decide)).elim⟩
      refine h g1 S1 a1 ⟨fun n hn => ?_, a3 9 (by decide) (by decide) ▸ rfl, fun w hw => ?_, ?_⟩ a5 a6
      · by_cases e : n = 13
        · rw [e, a2]
          rfl
        · exact a3 n e (by simp [dtag] at hn; omega)
      · refine ⟨by rw [a4 6 (Or.inl rfl)]; rfl, Nat.zero_le _, fun i hi => by cases hi⟩
      · exact ⟨by rw [a4 25 (by omega)]; rfl, Nat.zero_le _, fun i hi => by cases hi⟩
    | succ r ih =>
      intro i g1 S1 u w hr hi a1 a2 a3 a4 a5 a6
      refine x_go.run mn_R_init 10 ?_
      refine ⟨fun z => ?_, fun _ => ?_⟩
      · exfalso
        have := (z_le (a := 16) (by decide) (by omega)).mp z
        omega
      refine ⟨nl rfl, _, _, a1.1, rfl, ?_⟩
      refine ⟨_, _, a1.2.1 13 rfl, nl rfl, z_in (by show i < 16; omega) (by decide), ?_⟩
      rw [z_nat (by omega)]
      have k := ih (i + 1) _ _ u w (by omega) (by omega) (a1.ast (n := 13) rfl (upd (g1 13) i 30)) (by rw [gs_self, a2, fill_suc]) (fun k hk hk' => by rw [gs_ne hk]; exact a3 k hk hk') (fun n hn => by rw [gs_ne (by omega)]; exact a4 n hn) (a5.up (by decide) (by decide)) (by rw [x_up_k (by decide)]; exact a6)
      rw [← z_suc i] at k
      exact x_go.back mn_R_init (x_go.run mn_R_init 2 k)
  have machs : ∀ r i (g1 : Nat → Nat → Int32) (S1 : XH) (u w : Nat), 4 - i = r → i ≤ 4 → RM g1 S1 → g1 10 = fill i 1 → g1 17 = fill i 41 → (∀ k, k ≠ 13 → k ≠ 10 → k ≠ 17 → k < 26 → g1 k = d0.1 k) → g1 13 = (fun _ => 0) → (∀ n, n = 6 ∨ 25 ≤ n → g1 n = fun _ => 0) → fm S S1 → S1 19 = S 19 →
      x_go b_R_init P 249 [some (xv_r 15 0), some (xv_i (Int32.ofNat i))] [] S1 u w := by
    intro r
    induction r with
    | zero =>
      intro i g1 S1 u w hr hi a1 b10 b17 a3 a13 a4 a5 a6
      have e : i = 4 := by omega
      subst e
      refine x_go.run mn_R_init 5 ?_
      refine ⟨fun _ => ?_, fun z => (z (by decide)).elim⟩
      refine notes _ 0 g1 S1 u w rfl (by decide) a1 (by rw [a13, fill_0]) (fun k hk hk' => ?_) a4 a5 a6
      by_cases e : k = 10
      · rw [e, b10]
        rfl
      · by_cases e' : k = 17
        · rw [e', b17]
          rfl
        · exact a3 k hk e e' hk'
    | succ r ih =>
      intro i g1 S1 u w hr hi a1 b10 b17 a3 a13 a4 a5 a6
      refine x_go.run mn_R_init 15 ?_
      refine ⟨fun z => ?_, fun _ => ?_⟩
      · exfalso
        have := (z_le (a := 4) (by decide) (by omega)).mp z
        omega
      refine ⟨nl rfl, _, _, a1.1, rfl, ?_⟩
      refine ⟨_, _, a1.2.1 10 rfl, nl rfl, z_in (by show i < 4; omega) (by decide), ?_⟩
      rw [z_nat (by omega)]
      have r1 := a1.ast (n := 10) rfl (upd (g1 10) i 1)
      refine ⟨nl rfl, _, _, r1.1, rfl, ?_⟩
      refine ⟨_, _, r1.2.1 17 rfl, nl rfl, z_in (by show i < 4; omega) (by decide), ?_⟩
      rw [z_nat (by omega)]
      have k := ih (i + 1) _ _ u w (by omega) (by omega) (r1.ast (n := 17) rfl (upd (g1 17) i 41)) (by rw [gs_ne (by decide), gs_self, b10, fill_suc]) (by rw [gs_self, b17, fill_suc]) (fun k h1 h2 h3 h4 => by rw [gs_ne h3, gs_ne h2]; exact a3 k h1 h2 h3 h4) (by rw [gs_ne (by decide), gs_ne (by decide)]; exact a13) (fun n hn => by rw [gs_ne (by omega), gs_ne (by omega)]; exact a4 n hn) ((a5.up (by decide) (by decide)).up (by decide) (by decide)) (by rw [x_up_k (by decide), x_up_k (by decide)]; exact a6)
      rw [← z_suc i] at k
      exact x_go.back mn_R_init (x_go.run mn_R_init 2 k)
  have bytes : ∀ r i (g1 : Nat → Nat → Int32) (S1 : XH) (u w : Nat), 5 - i = r → i ≤ 5 → RM g1 S1 → g1 8 = fill i 17 → g1 9 = fill 1 1 → (∀ k, k ≠ 8 → k ≠ 9 → g1 k = fun _ => 0) → fm S S1 → S1 19 = S 19 →
      x_go b_R_init P 228 [some (xv_r 15 0), some (xv_i (Int32.ofNat i))] [] S1 u w := by
    intro r
    induction r with
    | zero =>
      intro i g1 S1 u w hr hi a1 a8 a9 a3 a5 a6
      have e : i = 5 := by omega
      subst e
      refine x_go.run mn_R_init 5 ?_
      refine ⟨fun _ => ?_, fun z => (z (by decide)).elim⟩
      refine machs _ 0 g1 S1 u w rfl (by decide) a1 (by rw [a3 10 (by decide) (by decide), fill_0]) (by rw [a3 17 (by decide) (by decide), fill_0]) (fun k h1 h2 h3 h4 => ?_) (a3 13 (by decide) (by decide)) (fun n hn => a3 n (by omega) (by omega)) a5 a6
      by_cases e : k = 8
      · rw [e, a8]
        rfl
      · by_cases e' : k = 9
        · rw [e', a9]
          rfl
        · rw [a3 k e e']
          unfold d0
          dsimp only
          rw [if_neg e, if_neg e', if_neg h2, if_neg h1, if_neg h3]
    | succ r ih =>
      intro i g1 S1 u w hr hi a1 a8 a9 a3 a5 a6
      refine x_go.run mn_R_init 10 ?_
      refine ⟨fun z => ?_, fun _ => ?_⟩
      · exfalso
        have := (z_le (a := 5) (by decide) (by omega)).mp z
        omega
      refine ⟨nl rfl, _, _, a1.1, rfl, ?_⟩
      refine ⟨_, _, a1.2.1 8 rfl, nl rfl, z_in (by show i < 5; omega) (by decide), ?_⟩
      rw [z_nat (by omega)]
      have k := ih (i + 1) _ _ u w (by omega) (by omega) (a1.ast (n := 8) rfl (upd (g1 8) i 17)) (by rw [gs_self, a8, fill_suc]) (by rw [gs_ne (by decide)]; exact a9) (fun k h1 h2 => by rw [gs_ne h1]; exact a3 k h1 h2) (a5.up (by decide) (by decide)) (by rw [x_up_k (by decide)]; exact a6)
      rw [← z_suc i] at k
      exact x_go.back mn_R_init (x_go.run mn_R_init 2 k)
  refine x_go.run mn_R_init 130 ?_
  refine ⟨nl rfl, ?_⟩
  refine ⟨by decide, by decide, nl rfl, nl rfl, 16, 0, nl rfl, h0.free (by decide), ?_⟩
  refine ⟨trivial, _, h0.obj (by decide), nl rfl, nl rfl, ?_⟩
  have q0 : RI 1 [xv_r 16 0, xv_n, xv_n, xv_n, xv_n, xv_n, xv_n, xv_n, xv_n, xv_i 0, xv_n, xv_n, xv_n, xv_n, xv_n, xv_n, xv_n, xv_n, xv_n, xv_n, xv_n, xv_n, xv_n, xv_n, xv_n, xv_i 0, xv_i 0, xv_n, xv_n, xv_n, xv_i 0] S _ := h0.step (k := 0) (by decide) (fun n h1 h2 => by omega)
  refine ⟨by decide, by decide, nl rfl, nl rfl, 16, 1, nl rfl, q0.free (by decide), ?_⟩
  refine ⟨trivial, _, q0.obj (by decide), nl rfl, nl rfl, ?_⟩
  have q1 : RI 2 [xv_r 16 0, xv_r 16 1, xv_n, xv_n, xv_n, xv_n, xv_n, xv_n, xv_n, xv_i 0, xv_n, xv_n, xv_n, xv_n, xv_n, xv_n, xv_n, xv_n, xv_n, xv_n, xv_n, xv_n, xv_n, xv_n, xv_n, xv_i 0, xv_i 0, xv_n, xv_n, xv_n, xv_i 0] S _ := q0.step (k := 1) (by decide) (fun n h1 h2 => by omega)
  refine ⟨by decide, by decide, nl rfl, nl rfl, 16, 2, nl rfl, q1.free (by decide), ?_⟩
  refine ⟨trivial, _, q1.obj (by decide), nl rfl, nl rfl, ?_⟩
  have q2 : RI 3 [xv_r 16 0, xv_r 16 1, xv_r 16 2, xv_n, xv_n, xv_n, xv_n, xv_n, xv_n, xv_i 0, xv_n, xv_n, xv_n, xv_n, xv_n, xv_n, xv_n, xv_n, xv_n, xv_n, xv_n, xv_n, xv_n, xv_n, xv_n, xv_i 0, xv_i 0, xv_n, xv_n, xv_n, xv_i 0] S _ := q1.step (k := 2) (by decide) (fun n h1 h2 => by omega)
  refine ⟨by decide, by decide, nl rfl, nl rfl, 16, 3, nl rfl, q2.free (by decide), ?_⟩
  refine ⟨trivial, _, q2.obj (by decide), nl rfl, nl rfl, ?_⟩
  have q3 : RI 4 [xv_r 16 0, xv_r 16 1, xv_r 16 2, xv_r 16 3, xv_n, xv_n, xv_n, xv_n, xv_n, xv_i 0, xv_n, xv_n, xv_n, xv_n, xv_n, xv_n, xv_n, xv_n, xv_n, xv_n, xv_n, xv_n, xv_n, xv_n, xv_n, xv_i 0, xv_i 0, xv_n, xv_n, xv_n, xv_i 0] S _ := q2.step (k := 3) (by decide) (fun n h1 h2 => by omega)
  refine ⟨by decide, by decide, nl rfl, nl rfl, 16, 4, nl rfl, q3.free (by decide), ?_⟩
  refine ⟨trivial, _, q3.obj (by decide), nl rfl, nl rfl, ?_⟩
  have q4 : RI 5 [xv_r 16 0, xv_r 16 1, xv_r 16 2, xv_r 16 3, xv_r 16 4, xv_n, xv_n, xv_n, xv_n, xv_i 0, xv_n, xv_n, xv_n, xv_n, xv_n, xv_n, xv_n, xv_n, xv_n, xv_n, xv_n, xv_n, xv_n, xv_n, xv_n, xv_i 0, xv_i 0, xv_n, xv_n, xv_n, xv_i 0] S _ := q3.step (k := 4) (by decide) (fun n h1 h2 => by omega)
  refine ⟨by decide, by decide, nl rfl, nl rfl, 16, 5, nl rfl, q4.free (by decide), ?_⟩
  refine ⟨trivial, _, q4.obj (by decide), nl rfl, nl rfl, ?_⟩
  have q5 : RI 6 [xv_r 16 0, xv_r 16 1, xv_r 16 2, xv_r 16 3, xv_r 16 4, xv_r 16 5, xv_n, xv_n, xv_n, xv_i 0, xv_n, xv_n, xv_n, xv_n, xv_n, xv_n, xv_n, xv_n, xv_n, xv_n, xv_n, xv_n, xv_n, xv_n, xv_n, xv_i 0, xv_i 0, xv_n, xv_n, xv_n, xv_i 0] S _ := q4.step (k := 5) (by decide) (fun n h1 h2 => by omega)
  refine ⟨by decide, by decide, nl rfl, nl rfl, 16, 6, nl rfl, q5.free (by decide), ?_⟩
  refine ⟨trivial, _, q5.obj (by decide), nl rfl, nl rfl, ?_⟩
  have q6 : RI 7 [xv_r 16 0, xv_r 16 1, xv_r 16 2, xv_r 16 3, xv_r 16 4, xv_r 16 5, xv_r 16 6, xv_n, xv_n, xv_i 0, xv_n, xv_n, xv_n, xv_n, xv_n, xv_n, xv_n, xv_n, xv_n, xv_n, xv_n, xv_n, xv_n, xv_n, xv_n, xv_i 0, xv_i 0, xv_n, xv_n, xv_n, xv_i 0] S _ := q5.step (k := 6) (by decide) (fun n h1 h2 => by omega)
  refine ⟨by decide, by decide, nl rfl, nl rfl, 16, 7, nl rfl, q6.free (by decide), ?_⟩
  refine ⟨trivial, _, q6.obj (by decide), nl rfl, nl rfl, ?_⟩
  have q7 : RI 8 [xv_r 16 0, xv_r 16 1, xv_r 16 2, xv_r 16 3, xv_r 16 4, xv_r 16 5, xv_r 16 6, xv_r 16 7, xv_n, xv_i 0, xv_n, xv_n, xv_n, xv_n, xv_n, xv_n, xv_n, xv_n, xv_n, xv_n, xv_n, xv_n, xv_n, xv_n, xv_n, xv_i 0, xv_i 0, xv_n, xv_n, xv_n, xv_i 0] S _ := q6.step (k := 7) (by decide) (fun n h1 h2 => by omega)
  refine ⟨by decide, by decide, nl rfl, nl rfl, 16, 8, nl rfl, q7.free (by decide), ?_⟩
  refine ⟨trivial, _, q7.obj (by decide), nl rfl, nl rfl, ?_⟩
  have q8 : RI 9 [xv_r 16 0, xv_r 16 1, xv_r 16 2, xv_r 16 3, xv_r 16 4, xv_r 16 5, xv_r 16 6, xv_r 16 7, xv_r 16 8, xv_i 0, xv_n, xv_n, xv_n, xv_n, xv_n, xv_n, xv_n, xv_n, xv_n, xv_n, xv_n, xv_n, xv_n, xv_n, xv_n, xv_i 0, xv_i 0, xv_n, xv_n, xv_n, xv_i 0] S _ := q7.step (k := 8) (by decide) (fun n h1 h2 => by omega)
  refine ⟨Or.inr rfl, _, q8.1, nl rfl, nl rfl, ?_⟩
  have q9 : RI 9 [xv_r 16 0, xv_r 16 1, xv_r 16 2, xv_r 16 3, xv_r 16 4, xv_r 16 5, xv_r 16 6, xv_r 16 7, xv_r 16 8, xv_i 1, xv_n, xv_n, xv_n, xv_n, xv_n, xv_n, xv_n, xv_n, xv_n, xv_n, xv_n, xv_n, xv_n, xv_n, xv_n, xv_i 0, xv_i 0, xv_n, xv_n, xv_n, xv_i 0] S _ := q8.set (k := 9) (xv_i 1)
  refine ⟨by decide, by decide, nl rfl, nl rfl, 16, 10, nl rfl, q9.free (by decide), ?_⟩
  refine ⟨trivial, _, q9.obj (by decide), nl rfl, nl rfl, ?_⟩
  have q10 : RI 11 [xv_r 16 0, xv_r 16 1, xv_r 16 2, xv_r 16 3, xv_r 16 4, xv_r 16 5, xv_r 16 6, xv_r 16 7, xv_r 16 8, xv_i 1, xv_r 16 10, xv_n, xv_n, xv_n, xv_n, xv_n, xv_n, xv_n, xv_n, xv_n, xv_n, xv_n, xv_n, xv_n, xv_n, xv_i 0, xv_i 0, xv_n, xv_n, xv_n, xv_i 0] S _ := q9.step (k := 10) (by decide) (fun n h1 h2 => by rw [show n = 9 by omega]; rfl)
  refine ⟨by decide, by decide, nl rfl, nl rfl, 16, 11, nl rfl, q10.free (by decide), ?_⟩
  refine ⟨trivial, _, q10.obj (by decide), nl rfl, nl rfl, ?_⟩
  have q11 : RI 12 [xv_r 16 0, xv_r 16 1, xv_r 16 2, xv_r 16 3, xv_r 16 4, xv_r 16 5, xv_r 16 6, xv_r 16 7, xv_r 16 8, xv_i 1, xv_r 16 10, xv_r 16 11, xv_n, xv_n, xv_n, xv_n, xv_n, xv_n, xv_n, xv_n, xv_n, xv_n, xv_n, xv_n, xv_n, xv_i 0, xv_i 0, xv_n, xv_n, xv_n, xv_i 0] S _ := q10.step (k := 11) (by decide) (fun n h1 h2 => by omega)
  refine ⟨by decide, by decide, nl rfl, nl rfl, 16, 12, nl rfl, q11.free (by decide), ?_⟩
  refine ⟨trivial, _, q11.obj (by decide), nl rfl, nl rfl, ?_⟩
  have q12 : RI 13 [xv_r 16 0, xv_r 16 1, xv_r 16 2, xv_r 16 3, xv_r 16 4, xv_r 16 5, xv_r 16 6, xv_r 16 7, xv_r 16 8, xv_i 1, xv_r 16 10, xv_r 16 11, xv_r 16 12, xv_n, xv_n, xv_n, xv_n, xv_n, xv_n, xv_n, xv_n, xv_n, xv_n, xv_n, xv_n, xv_i 0, xv_i 0, xv_n, xv_n, xv_n, xv_i 0] S _ := q11.step (k := 12) (by decide) (fun n h1 h2 => by omega)
  refine ⟨by decide, by decide, nl rfl, nl rfl, 16, 13, nl rfl, q12.free (by decide), ?_⟩
  refine ⟨trivial, _, q12.obj (by decide), nl rfl, nl rfl, ?_⟩
  have q13 : RI 14 [xv_r 16 0, xv_r 16 1, xv_r 16 2, xv_r 16 3, xv_r 16 4, xv_r 16 5, xv_r 16 6, xv_r 16 7, xv_r 16 8, xv_i 1, xv_r 16 10, xv_r 16 11, xv_r 16 12, xv_r 16 13, xv_n, xv_n, xv_n, xv_n, xv_n, xv_n, xv_n, xv_n, xv_n, xv_n, xv_n, xv_i 0, xv_i 0, xv_n, xv_n, xv_n, xv_i 0] S _ := q12.step (k := 13) (by decide) (fun n h1 h2 => by omega)
  refine ⟨by decide, by decide, nl rfl, nl rfl, 16, 14, nl rfl, q13.free (by decide), ?_⟩
  refine ⟨trivial, _, q13.obj (by decide), nl rfl, nl rfl, ?_⟩
  have q14 : RI 15 [xv_r 16 0, xv_r 16 1, xv_r 16 2, xv_r 16 3, xv_r 16 4, xv_r 16 5, xv_r 16 6, xv_r 16 7, xv_r 16 8, xv_i 1, xv_r 16 10, xv_r 16 11, xv_r 16 12, xv_r 16 13, xv_r 16 14, xv_n, xv_n, xv_n, xv_n, xv_n, xv_n, xv_n, xv_n, xv_n, xv_n, xv_i 0, xv_i 0, xv_n, xv_n, xv_n, xv_i 0] S _ := q13.step (k := 14) (by decide) (fun n h1 h2 => by omega)
  refine ⟨by decide, by decide, nl rfl, nl rfl, 16, 15, nl rfl, q14.free (by decide), ?_⟩
  refine ⟨trivial, _, q14.obj (by decide), nl rfl, nl rfl, ?_⟩
  have q15 : RI 16 [xv_r 16 0, xv_r 16 1, xv_r 16 2, xv_r 16 3, xv_r 16 4, xv_r 16 5, xv_r 16 6, xv_r 16 7, xv_r 16 8, xv_i 1, xv_r 16 10, xv_r 16 11, xv_r 16 12, xv_r 16 13, xv_r 16 14, xv_r 16 15, xv_n, xv_n, xv_n, xv_n, xv_n, xv_n, xv_n, xv_n, xv_n, xv_i 0, xv_i 0, xv_n, xv_n, xv_n, xv_i 0] S _ := q14.step (k := 15) (by decide) (fun n h1 h2 => by omega)
  refine ⟨by decide, by decide, nl rfl, nl rfl, 16, 16, nl rfl, q15.free (by decide), ?_⟩
  refine ⟨trivial, _, q15.obj (by decide), nl rfl, nl rfl, ?_⟩
  have q16 : RI 17 [xv_r 16 0, xv_r 16 1, xv_r 16 2, xv_r 16 3, xv_r 16 4, xv_r 16 5, xv_r 16 6, xv_r 16 7, xv_r 16 8, xv_i 1, xv_r 16 10, xv_r 16 11, xv_r 16 12, xv_r 16 13, xv_r 16 14, xv_r 16 15, xv_r 16 16, xv_n, xv_n, xv_n, xv_n, xv_n, xv_n, xv_n, xv_n, xv_i 0, xv_i 0, xv_n, xv_n, xv_n, xv_i 0] S _ := q15.step (k := 16) (by decide) (fun n h1 h2 => by omega)
  refine ⟨by decide, by decide, nl rfl, nl rfl, 16, 17, nl rfl, q16.free (by decide), ?_⟩
  refine ⟨trivial, _, q16.obj (by decide), nl rfl, nl rfl, ?_⟩
  have q17 : RI 18 [xv_r 16 0, xv_r 16 1, xv_r 16 2, xv_r 16 3, xv_r 16 4, xv_r 16 5, xv_r 16 6, xv_r 16 7, xv_r 16 8, xv_i 1, xv_r 16 10, xv_r 16 11, xv_r 16 12, xv_r 16 13, xv_r 16 14, xv_r 16 15, xv_r 16 16, xv_r 16 17, xv_n, xv_n, xv_n, xv_n, xv_n, xv_n, xv_n, xv_i 0, xv_i 0, xv_n, xv_n, xv_n, xv_i 0] S _ := q16.step (k := 17) (by decide) (fun n h1 h2 => by omega)
  refine ⟨by decide, by decide, nl rfl, nl rfl, 16, 18, nl rfl, q17.free (by decide), ?_⟩
  refine ⟨trivial, _, q17.obj (by decide), nl rfl, nl rfl, ?_⟩
  have q18 : RI 19 [xv_r 16 0, xv_r 16 1, xv_r 16 2, xv_r 16 3, xv_r 16 4, xv_r 16 5, xv_r 16 6, xv_r 16 7, xv_r 16 8, xv_i 1, xv_r 16 10, xv_r 16 11, xv_r 16 12, xv_r 16 13, xv_r 16 14, xv_r 16 15, xv_r 16 16, xv_r 16 17, xv_r 16 18, xv_n, xv_n, xv_n, xv_n, xv_n, xv_n, xv_i 0, xv_i 0, xv_n, xv_n, xv_n, xv_i 0] S _ := q17.step (k := 18) (by decide) (fun n h1 h2 => by omega)
  refine ⟨by decide, by decide, nl rfl, nl rfl, 16, 19, nl rfl, q18.free (by decide), ?_⟩
  refine ⟨trivial, _, q18.obj (by decide), nl rfl, nl rfl, ?_⟩
  have q19 : RI 20 [xv_r 16 0, xv_r 16 1, xv_r 16 2, xv_r 16 3, xv_r 16 4, xv_r 16 5, xv_r 16 6, xv_r 16 7, xv_r 16 8, xv_i 1, xv_r 16 10, xv_r 16 11, xv_r 16 12, xv_r 16 13, xv_r 16 14, xv_r 16 15, xv_r 16 16, xv_r 16 17, xv_r 16 18, xv_r 16 19, xv_n, xv_n, xv_n, xv_n, xv_n, xv_i 0, xv_i 0, xv_n, xv_n, xv_n, xv_i 0] S _ := q18.step (k := 19) (by decide) (fun n h1 h2 => by omega)
  refine ⟨by decide, by decide, nl rfl, nl rfl, 16, 20, nl rfl, q19.free (by decide), ?_⟩
  refine ⟨trivial, _, q19.obj (by decide), nl rfl, nl rfl, ?_⟩
  have q20 : RI 21 [xv_r 16 0, xv_r 16 1, xv_r 16 2, xv_r 16 3, xv_r 16 4, xv_r 16 5, xv_r 16 6, xv_r 16 7, xv_r 16 8, xv_i 1, xv_r 16 10, xv_r 16 11, xv_r 16 12, xv_r 16 13, xv_r 16 14, xv_r 16 15, xv_r 16 16, xv_r 16 17, xv_r 16 18, xv_r 16 19, xv_r 16 20, xv_n, xv_n, xv_n, xv_n, xv_i 0, xv_i 0, xv_n, xv_n, xv_n, xv_i 0] S _ := q19.step (k := 20) (by decide) (fun n h1 h2 => by omega)
  refine ⟨by decide, by decide, nl rfl, nl rfl, 16, 21, nl rfl, q20.free (by decide), ?_⟩
  refine ⟨trivial, _, q20.obj (by decide), nl rfl, nl rfl, ?_⟩
  have q21 : RI 22 [xv_r 16 0, xv_r 16 1, xv_r 16 2, xv_r 16 3, xv_r 16 4, xv_r 16 5, xv_r 16 6, xv_r 16 7, xv_r 16 8, xv_i 1, xv_r 16 10, xv_r 16 11, xv_r 16 12, xv_r 16 13, xv_r 16 14, xv_r 16 15, xv_r 16 16, xv_r 16 17, xv_r 16 18, xv_r 16 19, xv_r 16 20, xv_r 16 21, xv_n, xv_n, xv_n, xv_i 0, xv_i 0, xv_n, xv_n, xv_n, xv_i 0] S _ := q20.step (k := 21) (by decide) (fun n h1 h2 => by omega)
  refine ⟨by decide, by decide, nl rfl, nl rfl, 16, 22, nl rfl, q21.free (by decide), ?_⟩
  refine ⟨trivial, _, q21.obj (by decide), nl rfl, nl rfl, ?_⟩
  have q22 : RI 23 [xv_r 16 0, xv_r 16 1, xv_r 16 2, xv_r 16 3, xv_r 16 4, xv_r 16 5, xv_r 16 6, xv_r 16 7, xv_r 16 8, xv_i 1, xv_r 16 10, xv_r 16 11, xv_r 16 12, xv_r 16 13, xv_r 16 14, xv_r 16 15, xv_r 16 16, xv_r 16 17, xv_r 16 18, xv_r 16 19, xv_r 16 20, xv_r 16 21, xv_r 16 22, xv_n, xv_n, xv_i 0, xv_i 0, xv_n, xv_n, xv_n, xv_i 0] S _ := q21.step (k := 22) (by decide) (fun n h1 h2 => by omega)
  refine ⟨by decide, by decide, nl rfl, nl rfl, 16, 23, nl rfl, q22.free (by decide), ?_⟩
  refine ⟨trivial, _, q22.obj (by decide), nl rfl, nl rfl, ?_⟩
  have q23 : RI 24 [xv_r 16 0, xv_r 16 1, xv_r 16 2, xv_r 16 3, xv_r 16 4, xv_r 16 5, xv_r 16 6, xv_r 16 7, xv_r 16 8, xv_i 1, xv_r 16 10, xv_r 16 11, xv_r 16 12, xv_r 16 13, xv_r 16 14, xv_r 16 15, xv_r 16 16, xv_r 16 17, xv_r 16 18, xv_r 16 19, xv_r 16 20, xv_r 16 21, xv_r 16 22, xv_r 16 23, xv_n, xv_i 0, xv_i 0, xv_n, xv_n, xv_n, xv_i 0] S _ := q22.step (k := 23) (by decide) (fun n h1 h2 => by omega)
  refine ⟨by decide, by decide, nl rfl, nl rfl, 16, 24, nl rfl, q23.free (by decide), ?_⟩
  refine ⟨trivial, _, q23.obj (by decide), nl rfl, nl rfl, ?_⟩
  have q24 : RI 25 [xv_r 16 0, xv_r 16 1, xv_r 16 2, xv_r 16 3, xv_r 16 4, xv_r 16 5, xv_r 16 6, xv_r 16 7, xv_r 16 8, xv_i 1, xv_r 16 10, xv_r 16 11, xv_r 16 12, xv_r 16 13, xv_r 16 14, xv_r 16 15, xv_r 16 16, xv_r 16 17, xv_r 16 18, xv_r 16 19, xv_r 16 20, xv_r 16 21, xv_r 16 22, xv_r 16 23, xv_r 16 24, xv_i 0, xv_i 0, xv_n, xv_n, xv_n, xv_i 0] S _ := q23.step (k := 24) (by decide) (fun n h1 h2 => by omega)
  refine ⟨by decide, by decide, nl rfl, nl rfl, 16, 27, nl rfl, q24.free (by decide), ?_⟩
  refine ⟨trivial, _, q24.obj (by decide), nl rfl, nl rfl, ?_⟩
  have q27 : RI 28 [xv_r 16 0, xv_r 16 1, xv_r 16 2, xv_r 16 3, xv_r 16 4, xv_r 16 5, xv_r 16 6, xv_r 16 7, xv_r 16 8, xv_i 1, xv_r 16 10, xv_r 16 11, xv_r 16 12, xv_r 16 13, xv_r 16 14, xv_r 16 15, xv_r 16 16, xv_r 16 17, xv_r 16 18, xv_r 16 19, xv_r 16 20, xv_r 16 21, xv_r 16 22, xv_r 16 23, xv_r 16 24, xv_i 0, xv_i 0, xv_r 16 27, xv_n, xv_n, xv_i 0] S _ := q24.step (k := 27) (by decide) (fun n h1 h2 => by rcases (show n = 25 ∨ n = 26 by omega) with rfl | rfl <;> rfl)
  refine ⟨by decide, by decide, nl rfl, nl rfl, 16, 28, nl rfl, q27.free (by decide), ?_⟩
  refine ⟨trivial, _, q27.obj (by decide), nl rfl, nl rfl, ?_⟩
  have q28 : RI 29 [xv_r 16 0, xv_r 16 1, xv_r 16 2, xv_r 16 3, xv_r 16 4, xv_r 16 5, xv_r 16 6, xv_r 16 7, xv_r 16 8, xv_i 1, xv_r 16 10, xv_r 16 11, xv_r 16 12, xv_r 16 13, xv_r 16 14, xv_r 16 15, xv_r 16 16, xv_r 16 17, xv_r 16 18, xv_r 16 19, xv_r 16 20, xv_r 16 21, xv_r 16 22, xv_r 16 23, xv_r 16 24, xv_i 0, xv_i 0, xv_r 16 27, xv_r 16 28, xv_n, xv_i 0] S _ := q27.step (k := 28) (by decide) (fun n h1 h2 => by omega)
  refine ⟨by decide, by decide, nl rfl, nl rfl, 17, 0, nl rfl, q28.2.2.2.1, ?_⟩
  refine ⟨trivial, _, q28.obj (by decide), nl rfl, nl rfl, ?_⟩
  obtain ⟨z1, z2, z3, z4, z5, z6⟩ := q28
  refine x_go.back mn_R_init (x_go.run mn_R_init 2 (bytes _ 0 (gs (fun _ _ => 0) 9 (fill 1 1)) _ _ _ rfl (by decide) ⟨x_up_self _ _ _ _, fun n hn => ?_, ?_⟩ (by rw [gs_ne (by decide), fill_0]) (gs_self _ _ _) (fun k _ h2 => gs_ne h2) ((z5.up (by decide) (by decide)).up (by decide) (by decide)) ?_))
  · rw [x_up_ne (by omega), x_up_ne (by omega), gs_ne (by rintro rfl; cases hn)]
    exact z2 n (by simp [ma] at hn; omega) hn
  · rw [x_up_ne (by omega), x_up_self]
    rfl
  · rw [x_up_k (by decide), x_up_k (by decide)]
    exact z6
