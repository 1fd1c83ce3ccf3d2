section CI
variable {q : Nat → Nat → Int32} {s cp : Nat → Nat} {ls : Nat → List R6} {S : XH} {P : XP} {d : DS}
def chgB (e : R6) : Int32 := if e.1 = 7 then e.2.2.2.2.1 else if e.2.2.2.2.2 = 0 then -e.2.2.2.2.1 else 0
theorem c_changeBy {p : Nat} {e : R6} (h : S 11 p = some (.inl (6, eR e))) (hP : P (.inl (some (xv_i (chgB e)))) S) : Y_B_changeBy 0 0 [xv_r 11 p] S P := by
  unfold chgB at hP
  refine x_go.run mn_B_changeBy 20 ?_
  refine ⟨nl rfl, ⟨_, h⟩, rfl, nl rfl, 0, 0, Nat.zero_le _, Nat.zero_le _, c_kind h ?_⟩
  refine ⟨fun c => ?_, fun c => ?_⟩
  · rw [if_neg c] at hP
    refine ⟨nl rfl, ⟨_, h⟩, rfl, nl rfl, 0, 0, Nat.zero_le _, Nat.zero_le _, c_eans h ?_⟩
    refine ⟨fun c2 => ?_, fun c2 => ?_⟩
    · rw [if_neg c2] at hP
      exact hP
    · rw [if_pos (Classical.not_not.mp c2)] at hP
      exact ⟨nl rfl, ⟨_, h⟩, rfl, nl rfl, 0, 0, Nat.zero_le _, Nat.zero_le _, c_evalue h hP⟩
  · rw [if_pos (Classical.not_not.mp c)] at hP
    exact ⟨nl rfl, ⟨_, h⟩, rfl, nl rfl, 0, 0, Nat.zero_le _, Nat.zero_le _, c_evalue h hP⟩
theorem RC.bals (h : RC q s cp ls S) : S 8 1 = some (.inr (0, 200, .inl (q 13))) := h.2.2.2.2.2.2.1 1 (by decide)
theorem RC.tak (h : RC q s cp ls S) : S 8 0 = some (.inr (0, 200, .inl (q 12))) := h.2.2.2.2.2.2.1 0 (by decide)
theorem balC_suc {l : List R6} {i : Nat} (hi : i < l.length) (a : Int32) : balC (l.take (i + 1)) a = bstep a (balC (l.take i) a) l[i] := fold_suc hi
/-- the BALANCES are brought up to date, and one is told -/
theorem c_balanceOf {a : Nat} (hR : RC q s cp ls S) (hA : CA d q s ls) (hc : capok d cp) (hF : RF S) (hb : Bok (d.2 4)) (ha : a < 200)
    (h : ∀ q' S', RC q' s cp ls S' → CA d q' s ls → RF S' → fc S S' → (∀ k, k ≠ 2 → k ≠ 8 → S' k = S k) → (∀ t, t ≠ 0 → t ≠ 13 → q' t = q t) → P (.inl (some (xv_i (worthOf (d.2 4) (Int32.ofNat a))))) S') : Y_B_balanceOf 0 0 [xv_r 2 0, xv_i (Int32.ofNat a)] S P := by
  have hls : ls 4 = d.2 4 := hA.1.1 4 (by decide)
  have loop : ∀ n i (q1 : Nat → Nat → Int32) (S1 : XH) (j2 : Option XV), (d.2 4).length - i = n → i ≤ (d.2 4).length → RC q1 s cp ls S1 → RF S1 → fc S S1 → (∀ k, k ≠ 2 → k ≠ 8 → S1 k = S k) → (∀ t, t ≠ 0 → t ≠ 13 → q1 t = q t) → q1 0 0 = Int32.ofNat i → q1 0 1 = q 0 1 → (∀ a, a < 200 → q1 13 a = balC ((d.2 4).take i) (Int32.ofNat a)) →
      x_go b_B_balanceOf P 0 [some (xv_r 2 0), some (xv_i (Int32.ofNat a)), j2] [] S1 0 0 := by
    intro n
    induction n with
    | zero =>
      intro i q1 S1 j2 hn hi r1 f1 g1 g2 hq h00 h01 h13
      have ei : i = (d.2 4).length := by omega
      have hlen := (r1.2.2.2.2.2.2.2.2 4 (by decide)).len
      rw [hls] at hlen
      refine x_go.run mn_B_balanceOf 20 ?_
      refine ⟨nl rfl, _, _, r1.2.2.1, rfl, ?_⟩
      refine ⟨nl rfl, _, _, r1.2.2.1, rfl, ?_⟩
      refine ⟨nl rfl, ⟨_, r1.2.2.2.2.1 4 (by decide)⟩, rfl, nl rfl, 0, 0, Nat.zero_le _, Nat.zero_le _, c_jsize r1 (by decide) ?_⟩
      rw [hls, h00]
      refine ⟨fun _ => ?_, fun c => (c ((z_le (by omega) (by omega)).mpr (by omega))).elim⟩
      refine ⟨nl rfl, _, _, r1.2.2.1, rfl, ?_⟩
      refine ⟨_, _, r1.bals, z_in ha (by decide), ?_⟩
      rw [z_nat (by omega), h13 a ha, ei, List.take_length, ← hb.worth]
      refine h q1 S1 r1 ⟨?_, fun m hm => (hA.2.1 m hm).keep rfl rfl (by rw [hq 3 (by decide) (by decide)]) (by rw [hq 4 (by decide) (by decide)]) rfl rfl, ⟨i, hi, h00, h13⟩, ?_⟩ f1 g1 g2 hq
      · exact hA.1.own (fun t a b c d => hq t a d) (fun j _ => rfl)
      · exact hA.2.2.2.keep rfl h01
    | succ n ih =>
      intro i q1 S1 j2 hn hi r1 f1 g1 g2 hq h00 h01 h13
      have hi' : i < (d.2 4).length := by omega
      have hlen := (r1.2.2.2.2.2.2.2.2 4 (by decide)).len
      rw [hls] at hlen
      obtain ⟨ea, ea1, ea2⟩ := (Bok.mem hb (List.getElem_mem hi')).1
      refine x_go.run mn_B_balanceOf 60 ?_
      refine ⟨nl rfl, _, _, r1.2.2.1, rfl, ?_⟩
      refine ⟨nl rfl, _, _, r1.2.2.1, rfl, ?_⟩
      refine ⟨nl rfl, ⟨_, r1.2.2.2.2.1 4 (by decide)⟩, rfl, nl rfl, 0, 0, Nat.zero_le _, Nat.zero_le _, c_jsize r1 (by decide) ?_⟩
      rw [hls, h00]
      refine ⟨fun c => ?_, fun _ => ?_⟩
      · have := (z_le (by omega) (by omega)).mp c
        omega
      refine ⟨nl rfl, _, _, r1.2.2.1, rfl, ?_⟩
      refine ⟨nl rfl, _, _, r1.2.2.1, rfl, ?_⟩
      rw [h00]
      refine ⟨nl rfl, ⟨_, r1.2.2.2.2.1 4 (by decide)⟩, rfl, nl rfl, 0, 0, Nat.zero_le _, Nat.zero_le _, c_entry r1 (by decide) (by rw [hls]; exact hi') fun p hp => ?_⟩
      have hp : S1 11 p = some (.inl (6, eR (d.2 4)[i])) := by
        rw [hp]
        simp only [hls]
      refine ⟨nl rfl, _, _, r1.2.2.1, rfl, ?_⟩
      refine ⟨nl rfl, ⟨_, hp⟩, rfl, nl rfl, 0, 0, Nat.zero_le _, Nat.zero_le _, c_eacc hp ?_⟩
      rw [ea2]
      refine ⟨_, _, r1.bals, z_in ea1 (by decide), ?_⟩
      refine ⟨nl rfl, rfl, nl rfl, 0, 0, Nat.zero_le _, Nat.zero_le _, c_changeBy hp ?_⟩
      refine ⟨_, _, r1.bals, nl rfl, z_in ea1 (by decide), ?_⟩
      rw [z_nat (by omega)]
      have r2 := r1.putA (n := 1) (by decide) (upd (q1 13) ea (q1 13 ea + chgB (d.2 4)[i]))
      have r2 : RC (gs q1 13 (upd (q1 13) ea (q1 13 ea + chgB (d.2 4)[i]))) s cp ls (x_up S1 8 1 (.inr (0, 200, .inl (upd (q1 13) ea (q1 13 ea + chgB (d.2 4)[i]))))) := r2
      refine ⟨nl rfl, _, _, r2.2.2.1, rfl, ?_⟩
      refine ⟨trivial, _, r2.2.2.1, nl rfl, nl rfl, ?_⟩
      have r3 := r2.putB (i := 0) (by decide) (q1 0 0 + 1)
      refine x_go.back mn_B_balanceOf (x_go.run mn_B_balanceOf 1 (ih (i + 1) _ _ _ (by omega) (by omega) r3 f1.up.up ((g1.up (Or.inl (by simp))).up (Or.inl (by simp))) (fun k a b => by rw [x_up_k (by simpa using a), x_up_k (by simpa using b)]; exact g2 k a b) (fun t a b => ?_) ?_ ?_ fun a' ha' => ?_))
      · rw [gs_ne a, gs_ne b]
        exact hq t a b
      · rw [gs_at, h00, z_suc]
      · rw [gs_self, upd_ne (by decide), gs_ne (by decide)]
        exact h01
      · rw [gs_ne (by decide), gs_self, balC_suc hi', ← h13 a' ha']
        unfold bstep
        rw [ea2]
        by_cases e : a' = ea
        · subst e
          rw [upd_self, if_pos rfl]
          rfl
        · rw [upd_ne e, if_neg]
          intro z
          exact e ((z_eq (by omega) (by omega)).mp z).symm
  obtain ⟨bk, k1, k2, k3⟩ := hA.2.2.1
  exact loop _ bk q S none rfl k1 hR hF fc.rf (fun _ _ _ => rfl) (fun _ _ _ => rfl) k2 rfl k3
theorem c_balance {a : Int32} (hK : KS d S) (hi : Bok (d.2 4)) (hb : ¬ (0 ≤ a ∧ a ≤ 199) → kT d S 11 P) (ho : ∀ A, A < 200 → a = Int32.ofNat A → kN d S (fun S' => P (.inl (some (xv_i (worthOf (d.2 4) (Int32.ofNat A))))) S')) : Y_C_balance 3 18 [xv_r 0 0, xv_i a] S P := by
  obtain ⟨q, s, cp, ls, hR, hA, hc, hF⟩ := id hK
  refine x_go.run mn_C_balance 30 ?_
  refine ⟨nl rfl, rfl, nl rfl, 0, 0, Nat.zero_le _, Nat.zero_le _, c_isAccount (fun g1 g2 => ?_) (fun g => ?_)⟩
  · obtain ⟨A, hA', rfl⟩ := in_nat 199 (by decide) g1 g2
    refine ⟨nl rfl, rfl, nl rfl, 0, 0, Nat.zero_le _, Nat.zero_le _, c_allow1 ?_⟩
    refine ⟨nl rfl, _, _, hR.1, rfl, ?_⟩
    refine ⟨nl rfl, ⟨_, hR.2.2.1⟩, rfl, nl rfl, 0, 0, Nat.zero_le _, Nat.zero_le _, c_balanceOf hR hA hc hF hi (by omega) fun q' S' r a f g _ _ => ?_⟩
    exact ho A (by omega) rfl S' ⟨q', s, cp, ls, r, a, hc, f⟩ g
  · exact ⟨nl rfl, rfl, nl rfl, 1, 6, nl rfl, nl rfl, c_allow0 hF (nl rfl) (nl rfl) fun nx hn => (hb g).use hK hn⟩
theorem c_taken {a : Int32} (hK : KS d S) (hb : ¬ (0 ≤ a ∧ a ≤ 199) → kT d S 11 P) (ho : ∀ A, A < 200 → a = Int32.ofNat A → kN d S (fun S' => P (.inl (some (xv_i (d.1 18 A)))) S')) : Y_C_taken 3 18 [xv_r 0 0, xv_i a] S P := by
  obtain ⟨q, s, cp, ls, hR, hA, hc, hF⟩ := id hK
  refine x_go.run mn_C_taken 30 ?_
  refine ⟨nl rfl, rfl, nl rfl, 0, 0, Nat.zero_le _, Nat.zero_le _, c_isAccount (fun g1 g2 => ?_) (fun g => ?_)⟩
  · obtain ⟨A, hA', rfl⟩ := in_nat 199 (by decide) g1 g2
    refine ⟨nl rfl, rfl, nl rfl, 0, 0, Nat.zero_le _, Nat.zero_le _, c_allow1 ?_⟩
    refine ⟨nl rfl, _, _, hR.1, rfl, ?_⟩
    refine ⟨_, _, hR.tak, z_in (by omega) (by decide), ?_⟩
    rw [z_nat (by omega), hA.1.2.2.2.2 A (by omega)]
    exact ho A (by omega) rfl S hK fc.rf
  · exact ⟨nl rfl, rfl, nl rfl, 1, 6, nl rfl, nl rfl, c_allow0 hF (nl rfl) (nl rfl) fun nx hn => (hb g).use hK hn⟩
theorem c_mquiet {m : Nat} (hR : RC q s cp ls S) (hA : CA d q s ls) (hm : m < 4) (h0 : dbusy d m → P (.inl (some (xv_i 0))) S) (h1 : ¬ dbusy d m → P (.inl (some (xv_i 1))) S) : Y_M_isQuiet 0 0 [xv_r 3 m] S P := by
  have hM := hR.2.2.2.1 m hm
  have hon := hA.on hm
  obtain ⟨s4, hcm⟩ := hA.2.1 m hm
  refine x_go.run mn_M_isQuiet 30 ?_
  refine ⟨nl rfl, _, _, hM, rfl, ?_⟩
  refine ⟨nl rfl, ⟨_, hR.2.2.2.2.1 m (by omega)⟩, rfl, nl rfl, 0, 0, Nat.zero_le _, Nat.zero_le _, c_ison hR (by omega) (by rw [hon]; exact on01) ?_⟩
  rw [hon]
  refine ⟨fun c => ⟨Or.inl rfl, h0 (Or.inl (on_iff.mp c))⟩, fun c => ?_⟩
  have c0 : d.1 10 m ≠ 0 := fun z => c (on_iff.mpr z)
  obtain ⟨a1, a2, a3, -⟩ := hcm c0
  refine ⟨nl rfl, _, _, hM, rfl, ?_⟩
  refine ⟨Or.inr (Or.inr ⟨rfl, Or.inl rfl⟩), fun c2 => ⟨Or.inl rfl, h0 (Or.inr (Or.inl ((st_eq (hA.2.1 m hm) c0 (k := 3) (by decide)).mp c2)))⟩, fun c2 => ?_⟩
  have n4 : d.1 10 m ≠ 4 := fun z => c2 ((st_eq (hA.2.1 m hm) c0 (k := 3) (by decide)).mpr z)
  have hl := hR.2.2.2.2.2.2.2.2 (6 + m) (by omega)
  obtain ⟨fs, hfs⟩ := hl.obj
  refine ⟨nl rfl, _, _, hM, rfl, ?_⟩
  refine ⟨nl rfl, ⟨_, hfs⟩, rfl, nl rfl, 0, 0, Nat.zero_le _, Nat.zero_le _, c_isEmpty hl (fun e => ?_) (fun e => ?_)⟩
  · refine ⟨fun c => absurd c (by decide), fun _ => ⟨Or.inr rfl, h1 ?_⟩⟩
    rintro (z | z | z)
    · exact c0 z
    · exact n4 z
    · rw [← a3, e] at z
      exact z rfl
  · refine ⟨fun _ => ⟨Or.inl rfl, h0 (Or.inr (Or.inr ?_))⟩, fun c => (c rfl).elim⟩
    rw [← a3]
    exact fun z => e (List.length_eq_zero_iff.mp z)
end CI
