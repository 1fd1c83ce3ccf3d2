theorem c_size {S : XH} {P : XP} {j cap : Nat} {l : List R6} (h : LO S j cap l) (hP : P (.inl (some (xv_i (Int32.ofNat l.length)))) S) : Y_A_size 0 0 [xv_r 6 j] S P := by
  obtain ⟨k, a, f, md, h1, -⟩ := h
  refine x_go.run mn_A_size 3 ?_
  refine ⟨nl rfl, _, _, h1, rfl, ?_⟩
  exact hP
theorem LO.len {S : XH} {j cap : Nat} {l : List R6} (h : LO S j cap l) : l.length ≤ 10000 := by
  obtain ⟨k, a, f, md, h1, h2, h3, h4, -⟩ := h
  omega
theorem LO.obj {S : XH} {j cap : Nat} {l : List R6} (h : LO S j cap l) : ∃ fs, S 6 j = some (.inl (8, fs)) := by
  obtain ⟨k, a, f, md, h1, -⟩ := h
  exact ⟨_, h1⟩
theorem c_isEmpty {S : XH} {P : XP} {j cap : Nat} {l : List R6} (h : LO S j cap l) (h1 : l = [] → P (.inl (some (xv_i 1))) S) (h0 : l ≠ [] → P (.inl (some (xv_i 0))) S) : Y_A_isEmpty 0 0 [xv_r 6 j] S P := by
  have hlen := h.len
  obtain ⟨k, a, f, md, q1, -⟩ := h
  refine x_go.run mn_A_isEmpty 10 ?_
  refine ⟨nl rfl, _, _, q1, rfl, ?_⟩
  refine ⟨fun c => ⟨Or.inl rfl, h0 fun e => c ?_⟩, fun c => ⟨Or.inr rfl, h1 ?_⟩⟩
  · rw [e]
    rfl
  · have := (z_eq (b := 0) (by omega) (by decide)).mp (Classical.not_not.mp c)
    exact List.eq_nil_of_length_eq_zero this
theorem c_check {S : XH} {P : XP} {i n : Nat} (hi : i < n) (hn : n < 2147483648) (hP : P (.inl (some (xv_i (Int32.ofNat i)))) S) : Y_ZObjects_checkIndex 0 0 [xv_i (Int32.ofNat i), xv_i (Int32.ofNat n)] S P := by
  refine x_go.run mn_ZObjects_checkIndex 10 ?_
  refine ⟨nl rfl, rfl, nl rfl, 0, 0, Nat.zero_le _, Nat.zero_le _, ?_⟩
  refine x_go.run mn_ZPreconditions_checkIndex 10 ?_
  refine ⟨fun c => (z_neg (by omega) c).elim, fun _ => ⟨fun _ => hP, fun c => ?_⟩⟩
  exact (c ((z_lt (by omega) (by omega)).mpr hi)).elim
theorem c_get {S : XH} {P : XP} {j cap i : Nat} {l : List R6} (h : LO S j cap l) (hj : j < 10) (hi : i < l.length) (hP : ∀ p, S (lk j) p = some (.inl (lcl j, lR j l[i])) → P (.inl (some (xv_r (lk j) p))) S) : Y_A_get 0 0 [xv_r 6 j, xv_i (Int32.ofNat i)] S P := by
  have hlen := h.len
  obtain ⟨k, a, f, md, q1, q2, q3, q4, q5, q6⟩ := h
  obtain ⟨p, p1, p2⟩ := q6 i hi
  have hk : k < 48 := by
    rcases q5 with ⟨-, -, z⟩ | ⟨rfl, -⟩ <;> omega
  refine x_go.run mn_A_get 20 ?_
  refine ⟨nl rfl, _, _, q1, rfl, ?_⟩
  refine ⟨nl rfl, rfl, nl rfl, 0, 0, Nat.zero_le _, Nat.zero_le _, c_check hi (by omega) ?_⟩
  refine ⟨nl rfl, ⟨_, q1⟩, rfl, nl rfl, 0, 0, Nat.zero_le _, Nat.zero_le _, ?_⟩
  refine x_go.run mn_A_elementData 10 ?_
  refine ⟨nl rfl, _, _, q1, rfl, ?_⟩
  refine ⟨hk, _, _, q2, z_in (by omega) (by omega), ?_⟩
  rw [z_nat (by omega), p1]
  exact hP p p2
/-- what stands in an Entry, in a MESSAGE -/
theorem c_kind {S : XH} {P : XP} {p : Nat} {e : R6} (h : S 11 p = some (.inl (6, eR e))) (hP : P (.inl (some (xv_i e.1))) S) : Y_E_kind 0 0 [xv_r 11 p] S P := by
  refine x_go.run mn_E_kind 3 ?_
  refine ⟨nl rfl, _, _, h, rfl, ?_⟩
  exact hP
theorem c_emach {S : XH} {P : XP} {p : Nat} {e : R6} (h : S 11 p = some (.inl (6, eR e))) (hP : P (.inl (some (xv_i e.2.1))) S) : Y_E_machine 0 0 [xv_r 11 p] S P := by
  refine x_go.run mn_E_machine 3 ?_
  refine ⟨nl rfl, _, _, h, rfl, ?_⟩
  exact hP
theorem c_etrace {S : XH} {P : XP} {p : Nat} {e : R6} (h : S 11 p = some (.inl (6, eR e))) (hP : P (.inl (some (xv_i e.2.2.1))) S) : Y_E_trace 0 0 [xv_r 11 p] S P := by
  refine x_go.run mn_E_trace 3 ?_
  refine ⟨nl rfl, _, _, h, rfl, ?_⟩
  exact hP
theorem c_eacc {S : XH} {P : XP} {p : Nat} {e : R6} (h : S 11 p = some (.inl (6, eR e))) (hP : P (.inl (some (xv_i e.2.2.2.1))) S) : Y_E_account 0 0 [xv_r 11 p] S P := by
  refine x_go.run mn_E_account 3 ?_
  refine ⟨nl rfl, _, _, h, rfl, ?_⟩
  exact hP
theorem c_evalue {S : XH} {P : XP} {p : Nat} {e : R6} (h : S 11 p = some (.inl (6, eR e))) (hP : P (.inl (some (xv_i e.2.2.2.2.1))) S) : Y_E_value 0 0 [xv_r 11 p] S P := by
  refine x_go.run mn_E_value 3 ?_
  refine ⟨nl rfl, _, _, h, rfl, ?_⟩
  exact hP
theorem c_eans {S : XH} {P : XP} {p : Nat} {e : R6} (h : S 11 p = some (.inl (6, eR e))) (hP : P (.inl (some (xv_i e.2.2.2.2.2))) S) : Y_E_answer 0 0 [xv_r 11 p] S P := by
  refine x_go.run mn_E_answer 3 ?_
  refine ⟨nl rfl, _, _, h, rfl, ?_⟩
  exact hP
theorem c_gtype {S : XH} {P : XP} {p : Nat} {e : R6} (h : S 10 p = some (.inl (7, gR e))) (hP : P (.inl (some (xv_r 50 (tyN e.1)))) S) : Y_G_type 0 0 [xv_r 10 p] S P := by
  refine x_go.run mn_G_type 3 ?_
  refine ⟨nl rfl, _, _, h, rfl, ?_⟩
  exact hP
theorem c_gmach {S : XH} {P : XP} {p : Nat} {e : R6} (h : S 10 p = some (.inl (7, gR e))) (hP : P (.inl (some (xv_i e.2.1))) S) : Y_G_machine 0 0 [xv_r 10 p] S P := by
  refine x_go.run mn_G_machine 3 ?_
  refine ⟨nl rfl, _, _, h, rfl, ?_⟩
  exact hP
theorem c_gtrace {S : XH} {P : XP} {p : Nat} {e : R6} (h : S 10 p = some (.inl (7, gR e))) (hP : P (.inl (some (xv_i e.2.2.1))) S) : Y_G_trace 0 0 [xv_r 10 p] S P := by
  refine x_go.run mn_G_trace 3 ?_
  refine ⟨nl rfl, _, _, h, rfl, ?_⟩
  exact hP
theorem c_gacc {S : XH} {P : XP} {p : Nat} {e : R6} (h : S 10 p = some (.inl (7, gR e))) (hP : P (.inl (some (xv_i e.2.2.2.1))) S) : Y_G_account 0 0 [xv_r 10 p] S P := by
  refine x_go.run mn_G_account 3 ?_
  refine ⟨nl rfl, _, _, h, rfl, ?_⟩
  exact hP
theorem c_gamt {S : XH} {P : XP} {p : Nat} {e : R6} (h : S 10 p = some (.inl (7, gR e))) (hP : P (.inl (some (xv_i e.2.2.2.2.1))) S) : Y_G_amount 0 0 [xv_r 10 p] S P := by
  refine x_go.run mn_G_amount 3 ?_
  refine ⟨nl rfl, _, _, h, rfl, ?_⟩
  exact hP
theorem c_gans {S : XH} {P : XP} {p : Nat} {e : R6} (h : S 10 p = some (.inl (7, gR e))) (hP : P (.inl (some (xv_i e.2.2.2.2.2))) S) : Y_G_answer 0 0 [xv_r 10 p] S P := by
  refine x_go.run mn_G_answer 3 ?_
  refine ⟨nl rfl, _, _, h, rfl, ?_⟩
  exact hP
theorem c_is {S : XH} {P : XP} {p : Nat} {e : R6} {kind mach tr : Int32} (h : S 11 p = some (.inl (6, eR e))) (h1 : is6 kind mach tr e → P (.inl (some (xv_i 1))) S) (h0 : ¬ is6 kind mach tr e → P (.inl (some (xv_i 0))) S) : Y_E_is 0 0 [xv_r 11 p, xv_i kind, xv_i mach, xv_i tr] S P := by
  refine x_go.run mn_E_is 20 ?_
  refine ⟨nl rfl, _, _, h, rfl, ?_⟩
  refine ⟨fun c => ⟨Or.inl rfl, h0 fun z => c z.1⟩, fun c1 => ?_⟩
  refine ⟨nl rfl, _, _, h, rfl, ?_⟩
  refine ⟨fun c => ⟨Or.inl rfl, h0 fun z => c z.2.1⟩, fun c2 => ?_⟩
  refine ⟨nl rfl, _, _, h, rfl, ?_⟩
  exact ⟨fun c => ⟨Or.inl rfl, h0 fun z => c z.2.2⟩, fun c3 => ⟨Or.inr rfl, h1 ⟨Classical.not_not.mp c1, Classical.not_not.mp c2, Classical.not_not.mp c3⟩⟩⟩
section CL
variable {q : Nat → Nat → Int32} {s cp : Nat → Nat} {ls : Nat → List R6} {S : XH} {P : XP}
theorem c_jsize {w : Nat} (h : RC q s cp ls S) (hw : w < 5) (hP : P (.inl (some (xv_i (Int32.ofNat (ls w).length)))) S) : Y_J_size 0 0 [xv_r 4 w] S P := by
  have hj := h.2.2.2.2.1 w hw
  have hl := h.2.2.2.2.2.2.2.2 w (by omega)
  refine x_go.run mn_J_size 5 ?_
  refine ⟨nl rfl, _, _, hj, rfl, ?_⟩
  obtain ⟨fs, hfs⟩ := hl.obj
  refine ⟨nl rfl, ⟨_, hfs⟩, rfl, nl rfl, 0, 0, Nat.zero_le _, Nat.zero_le _, c_size hl ?_⟩
  exact hP
theorem c_ison {w : Nat} (h : RC q s cp ls S) (hw : w < 5) (h01 : q 5 w = 0 ∨ q 5 w = 1) (hP : P (.inl (some (xv_i (q 5 w)))) S) : Y_J_isOn 0 0 [xv_r 4 w] S P := by
  refine x_go.run mn_J_isOn 5 ?_
  refine ⟨nl rfl, _, _, (h.2.2.2.2.1 w hw), rfl, ?_⟩
  exact ⟨h01, hP⟩
theorem c_room {w n : Nat} (h : RC q s cp ls S) (hw : w < 5) (hn : n ≤ 10000) (h1 : (ls w).length + n ≤ (if w = 4 then 4000 else 1200) → P (.inl (some (xv_i 1))) S) (h0 : ¬ (ls w).length + n ≤ (if w = 4 then 4000 else 1200) → P (.inl (some (xv_i 0))) S) : Y_J_hasRoomFor 0 0 [xv_r 4 w, xv_i (Int32.ofNat n)] S P := by
  have hj := h.2.2.2.2.1 w hw
  have hl := h.2.2.2.2.2.2.2.2 w (by omega)
  have hlen := hl.len
  have el : jlim w = Int32.ofNat (if w = 4 then 4000 else 1200) := by
    unfold jlim
    split <;> rfl
  have hb : (if w = 4 then 4000 else 1200) ≤ 4000 := by split <;> decide
  refine x_go.run mn_J_hasRoomFor 20 ?_
  refine ⟨nl rfl, _, _, hj, rfl, ?_⟩
  obtain ⟨fs, hfs⟩ := hl.obj
  refine ⟨nl rfl, ⟨_, hfs⟩, rfl, nl rfl, 0, 0, Nat.zero_le _, Nat.zero_le _, c_size hl ?_⟩
  refine ⟨nl rfl, _, _, hj, rfl, ?_⟩
  refine ⟨fun c => ⟨Or.inl rfl, h0 fun z => ?_⟩, fun c => ⟨Or.inr rfl, h1 ?_⟩⟩
  · change jlim w < Int32.ofNat (ls w).length + Int32.ofNat n at c
    rw [el, z_add] at c
    have := (z_lt (by omega) (by omega)).mp c
    omega
  · change ¬ jlim w < Int32.ofNat (ls w).length + Int32.ofNat n at c
    rw [el, z_add] at c
    exact (z_le (by omega) (by omega)).mp (Int32.not_lt.mp c)
theorem c_entry {w i : Nat} (h : RC q s cp ls S) (hw : w < 5) (hi : i < (ls w).length) (hP : ∀ p, S 11 p = some (.inl (6, eR (ls w)[i])) → P (.inl (some (xv_r 11 p))) S) : Y_J_entry 0 0 [xv_r 4 w, xv_i (Int32.ofNat i)] S P := by
  have hj := h.2.2.2.2.1 w hw
  have hl := h.2.2.2.2.2.2.2.2 w (by omega)
  have e1 : lk w = 11 := if_neg (by omega)
  have e2 : lcl w = 6 := if_neg (by omega)
  have e3 : ∀ e, lR w e = eR e := fun e => if_neg (by omega)
  refine x_go.run mn_J_entry 10 ?_
  refine ⟨nl rfl, _, _, hj, rfl, ?_⟩
  obtain ⟨fs, hfs⟩ := hl.obj
  refine ⟨nl rfl, ⟨_, hfs⟩, rfl, nl rfl, 0, 0, Nat.zero_le _, Nat.zero_le _, c_get hl (by omega) hi fun p hp => ?_⟩
  rw [e1] at hp ⊢
  rw [e2, e3] at hp
  exact ⟨nl rfl, ⟨_, hp⟩, hP p hp⟩
theorem c_nsize (h : RC q s cp ls S) (hP : P (.inl (some (xv_i (Int32.ofNat (ls 5).length)))) S) : Y_N_size 0 0 [xv_r 1 0] S P := by
  have hl := h.2.2.2.2.2.2.2.2 5 (by omega)
  refine x_go.run mn_N_size 5 ?_
  refine ⟨nl rfl, _, _, h.2.1, rfl, ?_⟩
  obtain ⟨fs, hfs⟩ := hl.obj
  refine ⟨nl rfl, ⟨_, hfs⟩, rfl, nl rfl, 0, 0, Nat.zero_le _, Nat.zero_le _, c_size hl ?_⟩
  exact hP
theorem c_nsent {i : Nat} (h : RC q s cp ls S) (hi : i < (ls 5).length) (hP : ∀ p, S 10 p = some (.inl (7, gR (ls 5)[i])) → P (.inl (some (xv_r 10 p))) S) : Y_N_sent 0 0 [xv_r 1 0, xv_i (Int32.ofNat i)] S P := by
  have hl := h.2.2.2.2.2.2.2.2 5 (by omega)
  refine x_go.run mn_N_sent 10 ?_
  refine ⟨nl rfl, _, _, h.2.1, rfl, ?_⟩
  obtain ⟨fs, hfs⟩ := hl.obj
  refine ⟨nl rfl, ⟨_, hfs⟩, rfl, nl rfl, 0, 0, Nat.zero_le _, Nat.zero_le _, c_get hl (by omega) hi fun p hp => ?_⟩
  exact ⟨nl rfl, ⟨_, hp⟩, hP p hp⟩
/-- the last record of these -/
theorem c_find {w : Nat} {kind mach tr : Int32} (h : RC q s cp ls S) (hw : w < 5)
    (h0 : (∀ e ∈ ls w, ¬ is6 kind mach tr e) → P (.inl (some xv_n)) S)
    (h1 : ∀ i (hi : i < (ls w).length) p, is6 kind mach tr (ls w)[i] → (∀ k (hk : k < (ls w).length), i < k → ¬ is6 kind mach tr (ls w)[k]) → S 11 p = some (.inl (6, eR (ls w)[i])) → P (.inl (some (xv_r 11 p))) S) : Y_J_find 0 0 [xv_r 4 w, xv_i kind, xv_i mach, xv_i tr] S P := by
  have hj := h.2.2.2.2.1 w hw
  have hl := h.2.2.2.2.2.2.2.2 w (by omega)
  have hlen := hl.len
  have e1 : lk w = 11 := if_neg (by omega)
  have e2 : lcl w = 6 := if_neg (by omega)
  have e3 : ∀ e, lR w e = eR e := fun e => if_neg (by omega)
  obtain ⟨fs, hfs⟩ := hl.obj
  have loop : ∀ n (j5 : Option XV), n ≤ (ls w).length → (∀ k (hk : k < (ls w).length), n ≤ k → ¬ is6 kind mach tr (ls w)[k]) →
      x_go b_J_find P 11 [some (xv_r 4 w), some (xv_i kind), some (xv_i mach), some (xv_i tr), some (xv_i (Int32.ofNat n - 1)), j5] [] S 0 0 := by
    intro n
    induction n with
    | zero =>
      intro j5 hn hno
      refine x_go.run mn_J_find 10 ?_
      refine ⟨fun _ => h0 fun e he => ?_, fun c => (c z_m1).elim⟩
      obtain ⟨k, hk, rfl⟩ := List.mem_iff_getElem.mp he
      exact hno k hk (Nat.zero_le _)
    | succ n ih =>
      intro j5 hn hno
      rw [z_suc1]
      refine x_go.run mn_J_find 30 ?_
      refine ⟨fun c => (z_neg (by omega) c).elim, fun _ => ?_⟩
      refine ⟨nl rfl, _, _, hj, rfl, ?_⟩
      refine ⟨nl rfl, ⟨_, hfs⟩, rfl, nl rfl, 0, 0, Nat.zero_le _, Nat.zero_le _, c_get hl (by omega) hn fun p hp => ?_⟩
      rw [e1] at hp ⊢
      rw [e2, e3] at hp
      refine ⟨nl rfl, ⟨_, hp⟩, ?_⟩
      refine ⟨nl rfl, ⟨_, hp⟩, rfl, nl rfl, 0, 0, Nat.zero_le _, Nat.zero_le _, c_is hp (fun y => ?_) (fun y => ?_)⟩
      · exact ⟨fun c => absurd c (by decide), fun _ => h1 n hn p y (fun k hk hnk => hno k hk hnk) hp⟩
      · refine ⟨fun _ => ?_, fun c => (c rfl).elim⟩
        have := ih (some (xv_r 11 p)) (by omega) fun k hk hnk => by
          rcases Nat.eq_or_lt_of_le hnk with rfl | z
          · exact y
          · exact hno k hk z
        rw [← z_dec (Int32.ofNat n)] at this
        exact x_go.back mn_J_find (x_go.run mn_J_find 2 this)
  refine x_go.run mn_J_find 6 ?_
  refine ⟨nl rfl, _, _, hj, rfl, ?_⟩
  refine ⟨nl rfl, ⟨_, hfs⟩, rfl, nl rfl, 0, 0, Nat.zero_le _, Nat.zero_le _, c_size hl ?_⟩
  exact loop _ none (Nat.le_refl _) fun k hk hnk => by omega
end CL
