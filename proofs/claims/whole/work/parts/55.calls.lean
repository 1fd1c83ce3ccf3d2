def dload (d : DS) (m c : Nat) (n : Int32) : DS × Int32 × Int32 := if d.1 13 (4 * m + c) + n ≤ 500 then (dset d 13 (4 * m + c) (d.1 13 (4 * m + c) + n), 0, d.1 13 (4 * m + c) + n) else (d, 2, 0)
theorem z_4mi {m c : Nat} (hm : m < 4) (hc : c < 4) : ((4 : Int32) * Int32.ofNat m + Int32.ofNat c).toNatClampNeg = 4 * m + c := by rw [z_4m, z_nat (by omega)]
theorem z_4mb {m c : Nat} (hm : m < 4) (hc : c < 4) : vp_in ((4 : Int32) * Int32.ofNat m + Int32.ofNat c) (ml 13) := by rw [z_4m]; exact z_in (by show _ < 16; omega) (by decide)
theorem r_load {d : DS} {g : Nat → Nat → Int32} {S : XH} {P : XP} {m c n : Int32} (hR : RM g S) (hD : MD d g) (hX : RX S)
    (hb : ¬ (0 ≤ m ∧ m ≤ 3 ∧ 0 ≤ c ∧ c ≤ 3 ∧ 1 ≤ n ∧ n ≤ 100) → mC d 1 S (fun S' => P (.inl (some (xv_i 0))) S'))
    (ho : ∀ M C, M < 4 → C < 4 → m = Int32.ofNat M → c = Int32.ofNat C → 1 ≤ n → n ≤ 100 → mC (dload d M C n).1 (dload d M C n).2.1 S (fun S' => P (.inl (some (xv_i (dload d M C n).2.2))) S')) : Y_R_load 0 0 [xv_r 15 0, xv_i m, xv_i c, xv_i n] S P := by
  have fin : ∀ v : Int32, (0 < v → mC d v S (fun S' => P (.inl (some (xv_i 0))) S')) → (v ≤ 0 → v = 0 ∧ ∃ M C, M < 4 ∧ C < 4 ∧ m = Int32.ofNat M ∧ c = Int32.ofNat C ∧ mC (dset d 13 (4 * M + C) (d.1 13 (4 * M + C) + n)) 0 S (fun S' => P (.inl (some (xv_i (d.1 13 (4 * M + C) + n)))) S')) →
      x_go b_R_load P 56 [some (xv_r 15 0), some (xv_i m), some (xv_i c), some (xv_i n)] [xv_i v, xv_r 15 0] S 0 0 := by
    intro v hv hz
    refine x_go.run mn_R_load 40 ?_
    refine ⟨trivial, _, hR.1, nl rfl, nl rfl, ?_⟩
    obtain ⟨g1, a1, a2, a3, a4, a5, a6, -⟩ := thr hR hD hX v
    show x_run b_R_load P (x_go b_R_load P) 39 59 [some (xv_r 15 0), some (xv_i m), some (xv_i c), some (xv_i n)] [] (x_up S 15 0 (.inl (10, (mfl g).set 26 (xv_i v)))) 0 0
    generalize x_up S 15 0 (.inl (10, (mfl g).set 26 (xv_i v))) = S1 at a1 a5 a6 ⊢
    refine ⟨nl rfl, _, _, a1.1, rfl, ?_⟩
    rw [a3]
    refine ⟨fun q => ?_, fun q => hv (Int32.not_le.mp q) g1 S1 a1 a2 a3 a5 a6⟩
    obtain ⟨v0, M, C, hM, hC, rfl, rfl, h⟩ := hz q
    refine ⟨nl rfl, _, _, a1.1, rfl, ?_⟩
    refine ⟨_, _, a1.2.1 13 rfl, z_4mb hM hC, ?_⟩
    rw [z_4mi hM hC]
    refine ⟨_, _, a1.2.1 13 rfl, nl rfl, z_4mb hM hC, ?_⟩
    rw [z_4mi hM hC, a2.1 13 rfl]
    have r1 := a1.ast (n := 13) rfl (upd (g1 13) (4 * M + C) (g1 13 (4 * M + C) + n))
    have d1 := a2.set (n := 13) rfl (4 * M + C) (g1 13 (4 * M + C) + n)
    rw [a2.1 13 rfl] at r1 d1
    refine ⟨nl rfl, _, _, r1.1, rfl, ?_⟩
    refine ⟨_, _, r1.2.1 13 rfl, z_4mb hM hC, ?_⟩
    rw [z_4mi hM hC, gs_self, upd_self]
    exact h _ _ r1 d1 (a3.trans v0) (a5.up (by decide) (by decide)) (a6.eq (x_up_k (by decide)))
  have bad : ¬ (0 ≤ m ∧ m ≤ 3 ∧ 0 ≤ c ∧ c ≤ 3 ∧ 1 ≤ n ∧ n ≤ 100) → x_go b_R_load P 56 [some (xv_r 15 0), some (xv_i m), some (xv_i c), some (xv_i n)] [xv_i 1, xv_r 15 0] S 0 0 := fun h => fin 1 (fun _ => hb h) (fun q => absurd q (by decide))
  refine x_go.run mn_R_load 40 ?_
  refine ⟨nl rfl, rfl, nl rfl, 0, 0, Nat.zero_le _, Nat.zero_le _, r_in (fun h1 h2 => ?_) (fun h0 => ?_)⟩
  · refine ⟨fun q => absurd q (by decide), fun _ => ?_⟩
    refine ⟨nl rfl, rfl, nl rfl, 0, 0, Nat.zero_le _, Nat.zero_le _, r_in (fun h3 h4 => ?_) (fun h0 => ?_)⟩
    · refine ⟨fun q => absurd q (by decide), fun _ => ?_⟩
      refine ⟨nl rfl, rfl, nl rfl, 0, 0, Nat.zero_le _, Nat.zero_le _, r_in (fun h5 h6 => ?_) (fun h0 => ?_)⟩
      · refine ⟨fun _ => ?_, fun q => (q (by decide)).elim⟩
        obtain ⟨M, hM, rfl⟩ := in_nat 3 (by decide) h1 h2
        obtain ⟨C, hC, rfl⟩ := in_nat 3 (by decide) h3 h4
        have hM : M < 4 := by omega
        have hC : C < 4 := by omega
        have h := ho M C hM hC rfl rfl h5 h6
        unfold dload at h
        refine ⟨nl rfl, _, _, hR.1, rfl, ?_⟩
        refine ⟨_, _, hR.2.1 13 rfl, z_4mb hM hC, ?_⟩
        rw [z_4mi hM hC, hD.1 13 rfl]
        refine ⟨fun q => ?_, fun q => ?_⟩
        · rw [if_pos (show d.1 13 (4 * M + C) + n ≤ 500 from q)] at h
          exact x_go.back mn_R_load (x_go.run mn_R_load 1 (fin 0 (fun q => absurd q (by decide)) (fun _ => ⟨rfl, M, C, hM, hC, rfl, rfl, h⟩)))
        · rw [if_neg (show ¬ d.1 13 (4 * M + C) + n ≤ 500 from q)] at h
          exact x_go.back mn_R_load (x_go.run mn_R_load 2 (fin 2 (fun _ => h) (fun q => absurd q (by decide))))
      · exact ⟨fun q => (q rfl).elim, fun _ => x_go.back mn_R_load (x_go.run mn_R_load 2 (bad fun q => h0 ⟨q.2.2.2.2.1, q.2.2.2.2.2⟩))⟩
    · exact ⟨fun _ => x_go.back mn_R_load (x_go.run mn_R_load 2 (bad fun q => h0 ⟨q.2.2.1, q.2.2.2.1⟩)), fun q => (q rfl).elim⟩
  · exact ⟨fun _ => x_go.back mn_R_load (x_go.run mn_R_load 2 (bad fun q => h0 ⟨q.1, q.2.1⟩)), fun q => (q rfl).elim⟩
def q4c (x : Q4) (c : Nat) : Nat := if c = 0 then x.1 else if c = 1 then x.2.1 else if c = 2 then x.2.2.1 else x.2.2.2
theorem bst.at {g : Nat → Nat → Int32} {x : Q4} (h : bst g x) {c : Nat} (hc : c < 4) : g 27 c = Int32.ofNat (q4c x c) := by
  obtain ⟨h0, h1, h2, h3⟩ := h
  rcases (show c = 0 ∨ c = 1 ∨ c = 2 ∨ c = 3 by omega) with rfl | rfl | rfl | rfl
  · exact h0
  · exact h1
  · exact h2
  · exact h3
noncomputable def dmixv (d : DS) (m v c : Nat) : Int32 := match dmix d m v with
  | some x => Int32.ofNat (q4c x c)
  | none => -1
theorem r_mix {d : DS} {g : Nat → Nat → Int32} {S : XH} {P : XP} {m v c : Int32} (hR : RM g S) (hD : MD d g) (hX : RX S) (hn : ∀ M, M < 4 → ntok (d.1 13) M)
    (hb : ¬ (0 ≤ m ∧ m ≤ 3 ∧ 0 ≤ c ∧ c ≤ 3 ∧ 0 ≤ v ∧ v ≤ 1000) → mC d 1 S (fun S' => P (.inl (some (xv_i 0))) S'))
    (ho : ∀ M V C, M < 4 → V ≤ 1000 → C < 4 → m = Int32.ofNat M → v = Int32.ofNat V → c = Int32.ofNat C → mC d 0 S (fun S' => P (.inl (some (xv_i (dmixv d M V C)))) S')) : Y_R_mix 0 0 [xv_r 15 0, xv_i m, xv_i v, xv_i c] S P := by
  have fin : ∀ th : Int32, (0 < th → mC d th S (fun S' => P (.inl (some (xv_i 0))) S')) → (th ≤ 0 → th = 0 ∧ ∃ M V C, M < 4 ∧ V ≤ 1000 ∧ C < 4 ∧ m = Int32.ofNat M ∧ v = Int32.ofNat V ∧ c = Int32.ofNat C ∧ mC d 0 S (fun S' => P (.inl (some (xv_i (dmixv d M V C)))) S')) →
      x_go b_R_mix P 35 [some (xv_r 15 0), some (xv_i m), some (xv_i v), some (xv_i c)] [xv_i th, xv_r 15 0] S 0 0 := by
    intro th hv hz
    refine x_go.run mn_R_mix 40 ?_
    refine ⟨trivial, _, hR.1, nl rfl, nl rfl, ?_⟩
    obtain ⟨g1, a1, a2, a3, a4, a5, a6, a7⟩ := thr hR hD hX th
    show x_run b_R_mix P (x_go b_R_mix P) 39 38 [some (xv_r 15 0), some (xv_i m), some (xv_i v), some (xv_i c)] [] (x_up S 15 0 (.inl (10, (mfl g).set 26 (xv_i th)))) 0 0
    generalize x_up S 15 0 (.inl (10, (mfl g).set 26 (xv_i th))) = S1 at a1 a5 a6 a7 ⊢
    refine ⟨nl rfl, _, _, a1.1, rfl, ?_⟩
    rw [a3]
    refine ⟨fun q => ?_, fun q => hv (Int32.not_le.mp q) g1 S1 a1 a2 a3 a5 a6⟩
    obtain ⟨v0, M, V, C, hM, hV, hC, rfl, rfl, rfl, h⟩ := hz q
    unfold dmixv at h
    refine ⟨nl rfl, ⟨_, a1.1⟩, rfl, nl rfl, 0, 0, Nat.zero_le _, Nat.zero_le _, (r_mixed a1 a2 hM hV (hn M hM) (fun x hx g2 S2 b1 b2 b3 b4 b5 b6 => ?_) (fun hno g2 S2 b1 b2 b4 b5 b6 => ?_))⟩
    · refine ⟨fun q => absurd q (by decide), fun _ => ?_⟩
      rw [dmix_some hx] at h
      refine ⟨nl rfl, _, _, b1.1, rfl, ?_⟩
      refine ⟨_, _, b1.2.1 27 rfl, z_in (by exact hC) (by decide), ?_⟩
      rw [z_nat (by omega), b3.at hC]
      exact h g2 S2 b1 b2 (by rw [b4 26 (by decide), a3, v0]) (a5.tr b5) (a6.eq b6)
    · refine ⟨fun _ => ?_, fun q => (q rfl).elim⟩
      rw [dmix_none hno] at h
      exact h g2 S2 b1 b2 (by rw [b4 26 (by decide), a3, v0]) (a5.tr b5) (a6.eq b6)
  have bad : ¬ (0 ≤ m ∧ m ≤ 3 ∧ 0 ≤ c ∧ c ≤ 3 ∧ 0 ≤ v ∧ v ≤ 1000) → x_go b_R_mix P 34 [some (xv_r 15 0), some (xv_i m), some (xv_i v), some (xv_i c)] [xv_r 15 0] S 0 0 := fun h => x_go.run mn_R_mix 1 (fin 1 (fun _ => hb h) (fun q => absurd q (by decide)))
  refine x_go.run mn_R_mix 40 ?_
  refine ⟨nl rfl, rfl, nl rfl, 0, 0, Nat.zero_le _, Nat.zero_le _, r_in (fun h1 h2 => ?_) (fun h0 => ?_)⟩
  · refine ⟨fun q => absurd q (by decide), fun _ => ?_⟩
    refine ⟨nl rfl, rfl, nl rfl, 0, 0, Nat.zero_le _, Nat.zero_le _, r_in (fun h3 h4 => ?_) (fun h0 => ?_)⟩
    · refine ⟨fun q => absurd q (by decide), fun _ => ?_⟩
      refine ⟨nl rfl, rfl, nl rfl, 0, 0, Nat.zero_le _, Nat.zero_le _, r_in (fun h5 h6 => ?_) (fun h0 => ?_)⟩
      · refine ⟨fun q => absurd q (by decide), fun _ => ?_⟩
        obtain ⟨M, hM, rfl⟩ := in_nat 3 (by decide) h1 h2
        obtain ⟨C, hC, rfl⟩ := in_nat 3 (by decide) h3 h4
        obtain ⟨V, hV, rfl⟩ := in_nat 1000 (by decide) h5 h6
        exact x_go.back mn_R_mix (x_go.run mn_R_mix 2 (fin 0 (fun q => absurd q (by decide)) (fun _ => ⟨rfl, M, V, C, by omega, hV, by omega, rfl, rfl, rfl, ho M V C (by omega) hV (by omega) rfl rfl rfl⟩)))
      · exact ⟨fun _ => x_go.back mn_R_mix (bad fun q => h0 ⟨q.2.2.2.2.1, q.2.2.2.2.2⟩), fun q => (q rfl).elim⟩
    · exact ⟨fun _ => x_go.back mn_R_mix (bad fun q => h0 ⟨q.2.2.1, q.2.2.2.1⟩), fun q => (q rfl).elim⟩
  · exact ⟨fun _ => x_go.back mn_R_mix (bad fun q => h0 ⟨q.1, q.2.1⟩), fun q => (q rfl).elim⟩
noncomputable def dtold (d : DS) (m : Nat) (what : Nat) : Int32 :=
  if d.1 10 m = 0 ∧ (what = 1 ∨ what = 2) then -1 else if 4 ≤ what ∧ what ≤ 7 then d.1 13 (4 * m + (what - 4)) else if what = 0 then d.1 10 m else if what = 1 then dlast d m else if what = 2 then Int32.ofNat (voidsOf (d.2 m) (Int32.ofNat m)).length else if what = 3 then Int32.ofNat (d.2 m).length else if what = 8 then d.1 14 m else if what = 9 then d.1 15 m else d.1 16 m
set_option maxHeartbeats 4000000 in
theorem r_told {d : DS} {g : Nat → Nat → Int32} {S : XH} {P : XP} {m c : Int32} (hR : RM g S) (hD : MD d g) (hX : RX S)
    (hb : ¬ (0 ≤ m ∧ m ≤ 3 ∧ 0 ≤ c ∧ c ≤ 10) → mC d 1 S (fun S' => P (.inl (some (xv_i 0))) S'))
    (ho : ∀ M C, M < 4 → C ≤ 10 → m = Int32.ofNat M → c = Int32.ofNat C → mC d 0 S (fun S' => P (.inl (some (xv_i (dtold d M C)))) S')) : Y_R_told 0 0 [xv_r 15 0, xv_i m, xv_i c] S P := by
  have fin : ∀ th : Int32, (0 < th → mC d th S (fun S' => P (.inl (some (xv_i 0))) S')) → (th ≤ 0 → th = 0 ∧ ∃ M C, M < 4 ∧ C ≤ 10 ∧ m = Int32.ofNat M ∧ c = Int32.ofNat C ∧ mC d 0 S (fun S' => P (.inl (some (xv_i (dtold d M C)))) S')) →
      x_go b_R_told P 25 [some (xv_r 15 0), some (xv_i m), some (xv_i c)] [xv_i th, xv_r 15 0] S 0 0 := by
    intro th hv hz
    refine x_go.run mn_R_told 60 ?_
    refine ⟨trivial, _, hR.1, nl rfl, nl rfl, ?_⟩
    obtain ⟨g1, a1, a2, a3, a4, a5, a6, a7⟩ := thr hR hD hX th
    show x_run b_R_told P (x_go b_R_told P) 59 28 [some (xv_r 15 0), some (xv_i m), some (xv_i c)] [] (x_up S 15 0 (.inl (10, (mfl g).set 26 (xv_i th)))) 0 0
    generalize x_up S 15 0 (.inl (10, (mfl g).set 26 (xv_i th))) = S1 at a1 a5 a6 a7 ⊢
    refine ⟨nl rfl, _, _, a1.1, rfl, ?_⟩
    rw [a3]
    refine ⟨fun q => ?_, fun q => hv (Int32.not_le.mp q) g1 S1 a1 a2 a3 a5 a6⟩
    obtain ⟨v0, M, C, hM, hC, rfl, rfl, h⟩ := hz q
    have h : ∀ v : Int32, v = dtold d M C → P (.inl (some (xv_i v))) S1 := fun v e => by rw [e]; exact h g1 S1 a1 a2 (a3.trans v0) a5 a6
    unfold dtold at h
    have hJ := a2.2.2.1 M (by omega)
    have two : ¬ (d.1 10 M = 0 ∧ (C = 1 ∨ C = 2)) → x_go b_R_told P 58 [some (xv_r 15 0), some (xv_i (Int32.ofNat M)), some (xv_i (Int32.ofNat C))] [] S1 0 0 := by
      intro hno
      rw [if_neg hno] at h
      have three : ¬ (4 ≤ C ∧ C ≤ 7) → x_go b_R_told P 82 [some (xv_r 15 0), some (xv_i (Int32.ofNat M)), some (xv_i (Int32.ofNat C))] [] S1 0 0 := by
        intro hno
        rw [if_neg hno] at h
        have ne : ∀ {k : Nat}, k ≤ 10 → C ≠ k → ¬ (Int32.ofNat C).toInt = (k : Int) := fun {k} hk hne q => by
          rw [z_toInt (by omega)] at q
          omega
        have hs : ∀ {k : Nat}, C = k → (Int32.ofNat C).toInt = (k : Int) := fun {k} e => by rw [z_toInt (by omega), e]
        rcases (show C = 0 ∨ C = 1 ∨ C = 2 ∨ C = 3 ∨ C = 8 ∨ C = 9 ∨ C = 10 by omega) with rfl | rfl | rfl | rfl | rfl | rfl | rfl
        · refine x_go.run mn_R_told 30 ?_
          refine ⟨fun _ => ?_, fun q => (q rfl).elim⟩
          refine ⟨nl rfl, _, _, a1.1, rfl, ?_⟩
          refine ⟨_, _, a1.2.1 10 rfl, z_in (by exact hM) (by decide), ?_⟩
          rw [z_nat (by omega), a2.1 10 rfl]
          exact h _ rfl
        · refine x_go.run mn_R_told 30 ?_
          refine ⟨fun q => absurd q (by decide), fun _ => ⟨fun _ => ?_, fun q => (q rfl).elim⟩⟩
          refine ⟨nl rfl, ⟨_, a1.1⟩, rfl, nl rfl, 0, 0, Nat.zero_le _, Nat.zero_le _, (r_lastTrace a1 (by omega) hJ ?_)⟩
          exact h _ rfl
        · refine x_go.run mn_R_told 30 ?_
          refine ⟨fun q => absurd q (by decide), fun _ => ⟨fun q => absurd q (by decide), fun _ => ⟨fun _ => ?_, fun q => (q rfl).elim⟩⟩⟩
          refine ⟨nl rfl, ⟨_, a1.1⟩, rfl, nl rfl, 0, 0, Nat.zero_le _, Nat.zero_le _, (r_voids a1 (by omega) hJ ?_)⟩
          exact h _ rfl
        · refine x_go.run mn_R_told 30 ?_
          refine ⟨fun q => absurd q (by decide), fun _ => ⟨fun q => absurd q (by decide), fun _ => ⟨fun q => absurd q (by decide), fun _ => ⟨fun _ => ?_, fun q => (q rfl).elim⟩⟩⟩⟩
          refine ⟨nl rfl, _, _, a1.1, rfl, ?_⟩
          refine ⟨_, _, a1.2.1 6 rfl, z_in (by show M < 5; omega) (by decide), ?_⟩
          rw [z_nat (by omega), hJ.1]
          exact h _ rfl
        · refine x_go.run mn_R_told 30 ?_
          refine ⟨fun q => absurd q (by decide), fun _ => ⟨fun q => absurd q (by decide), fun _ => ⟨fun q => absurd q (by decide), fun _ => ⟨fun q => absurd q (by decide), fun _ => ⟨fun q => absurd q (by decide), fun _ => ⟨fun q => absurd q (by decide), fun _ => ⟨fun q => absurd q (by decide), fun _ => ⟨fun q => absurd q (by decide), fun _ => ⟨fun _ => ?_, fun q => (q rfl).elim⟩⟩⟩⟩⟩⟩⟩⟩⟩
          refine ⟨nl rfl, _, _, a1.1, rfl, ?_⟩
          refine ⟨_, _, a1.2.1 14 rfl, z_in (by exact hM) (by decide), ?_⟩
          rw [z_nat (by omega), a2.1 14 rfl]
          exact h _ rfl
        · refine x_go.run mn_R_told 30 ?_
          refine ⟨fun q => absurd q (by decide), fun _ => ⟨fun q => absurd q (by decide), fun _ => ⟨fun q => absurd q (by decide), fun _ => ⟨fun q => absurd q (by decide), fun _ => ⟨fun q => absurd q (by decide), fun _ => ⟨fun q => absurd q (by decide), fun _ => ⟨fun q => absurd q (by decide), fun _ => ⟨fun q => absurd q (by decide), fun _ => ⟨fun q => absurd q (by decide), fun _ => ⟨fun _ => ?_, fun q => (q rfl).elim⟩⟩⟩⟩⟩⟩⟩⟩⟩⟩
          refine ⟨nl rfl, _, _, a1.1, rfl, ?_⟩
          refine ⟨_, _, a1.2.1 15 rfl, z_in (by exact hM) (by decide), ?_⟩
          rw [z_nat (by omega), a2.1 15 rfl]
          exact h _ rfl
        · refine x_go.run mn_R_told 30 ?_
          refine ⟨fun q => absurd q (by decide), fun _ => ⟨fun q => absurd q (by decide), fun _ => ⟨fun q => absurd q (by decide), fun _ => ⟨fun q => absurd q (by decide), fun _ => ⟨fun q => absurd q (by decide), fun _ => ⟨fun q => absurd q (by decide), fun _ => ⟨fun q => absurd q (by decide), fun _ => ⟨fun q => absurd q (by decide), fun _ => ⟨fun q => absurd q (by decide), fun _ => ⟨fun q => absurd q (by decide), fun _ => ?_⟩⟩⟩⟩⟩⟩⟩⟩⟩⟩
          refine ⟨nl rfl, _, _, a1.1, rfl, ?_⟩
          refine ⟨_, _, a1.2.1 16 rfl, z_in (by exact hM) (by decide), ?_⟩
          rw [z_nat (by omega), a2.1 16 rfl]
          exact h _ rfl
      refine x_go.run mn_R_told 40 ?_
      refine ⟨fun q => ?_, fun q => ?_⟩
      · have := (z_lt (b := 4) (by omega) (by decide)).mp q
        exact x_go.back mn_R_told (three (by omega))
      refine ⟨fun q' => ?_, fun q' => ?_⟩
      · have := (z_lt (a := 7) (by decide) (by omega)).mp q'
        exact x_go.back mn_R_told (three (by omega))
      have c4 : 4 ≤ C := (z_le (a := 4) (by decide) (by omega)).mp (Int32.not_lt.mp q)
      have c7 : C ≤ 7 := (z_le (b := 7) (by omega) (by decide)).mp (Int32.not_lt.mp q')
      rw [if_pos ⟨c4, c7⟩] at h
      have ei : (4 : Int32) * Int32.ofNat M + Int32.ofNat C - 4 = Int32.ofNat (4 * M + (C - 4)) := by
        rw [z_4m, show (4 : Int32) = Int32.ofNat 4 from rfl, z_sub (by omega)]
        congr 1
        omega
      refine ⟨nl rfl, _, _, a1.1, rfl, ?_⟩
      refine ⟨_, _, a1.2.1 13 rfl, (by show vp_in ((4 : Int32) * Int32.ofNat M + Int32.ofNat C - 4) 16; rw [ei]; exact z_in (by omega) (by decide)), ?_⟩
      rw [show ((4 : Int32) * Int32.ofNat M + Int32.ofNat C - 4).toNatClampNeg = 4 * M + (C - 4) by rw [ei, z_nat (by omega)], a2.1 13 rfl]
      exact h _ rfl
    refine ⟨nl rfl, _, _, a1.1, rfl, ?_⟩
    refine ⟨_, _, a1.2.1 10 rfl, z_in (by exact hM) (by decide), ?_⟩
    rw [z_nat (by omega), a2.1 10 rfl]
    refine ⟨fun q => x_go.back mn_R_told (two fun z => q z.1), fun q => ?_⟩
    have q0 : d.1 10 M = 0 := Classical.not_not.mp q
    refine ⟨fun q1 => ?_, fun q1 => ?_⟩
    · have := (z_eq (b := 1) (by omega) (by decide)).mp q1
      rw [if_pos ⟨q0, Or.inl this⟩] at h
      exact h _ rfl
    · refine ⟨fun q2 => ?_, fun q2 => ?_⟩
      · refine x_go.back mn_R_told (two fun z => ?_)
        rcases z.2 with rfl | rfl
        · exact q1 rfl
        · exact q2 rfl
      · have := (z_eq (b := 2) (by omega) (by decide)).mp (Classical.not_not.mp q2)
        rw [if_pos ⟨q0, Or.inr this⟩] at h
        exact h _ rfl
  refine x_go.run mn_R_told 40 ?_
  refine ⟨nl rfl, rfl, nl rfl, 0, 0, Nat.zero_le _, Nat.zero_le _, r_in (fun h1 h2 => ?_) (fun h0 => ?_)⟩
  · refine ⟨fun q => absurd q (by decide), fun _ => ?_⟩
    refine ⟨nl rfl, rfl, nl rfl, 0, 0, Nat.zero_le _, Nat.zero_le _, r_in (fun h3 h4 => ?_) (fun h0 => ?_)⟩
    · refine ⟨fun q => absurd q (by decide), fun _ => ?_⟩
      obtain ⟨M, hM, rfl⟩ := in_nat 3 (by decide) h1 h2
      obtain ⟨C, hC, rfl⟩ := in_nat 10 (by decide) h3 h4
      exact x_go.back mn_R_told (x_go.run mn_R_told 2 (fin 0 (fun q => absurd q (by decide)) (fun _ => ⟨rfl, M, C, by omega, hC, rfl, rfl, ho M C (by omega) hC rfl rfl⟩)))
    · exact ⟨fun _ => x_go.back mn_R_told (x_go.run mn_R_told 1 (fin 1 (fun _ => hb fun q => h0 ⟨q.2.2.1, q.2.2.2⟩) (fun q => absurd q (by decide)))), fun q => (q rfl).elim⟩
  · exact ⟨fun _ => x_go.back mn_R_told (x_go.run mn_R_told 1 (fin 1 (fun _ => hb fun q => h0 ⟨q.1, q.2.1⟩) (fun q => absurd q (by decide)))), fun q => (q rfl).elim⟩
