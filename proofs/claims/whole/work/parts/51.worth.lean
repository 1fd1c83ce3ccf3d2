def w1step (a : Int32) (v : Int32) (e : R6) : Int32 := if e.1 = 6 ∧ e.2.2.2.1 = a ∧ e.2.2.2.2.2 = 0 then v - e.2.2.2.2.1 else v
def w2step (l : List R6) (a : Int32) (v : Int32) (e : R6) : Int32 := if e.1 = 7 ∧ 0 < e.2.2.2.2.1 ∧ (fR l 6 e.2.1 e.2.2.1).any (fun q => q.2.2.2.1 == a) = true then v + e.2.2.2.2.1 else v
/-- a BALANCE as the model counts it -/
def worthOf (l : List R6) (a : Int32) : Int32 := l.foldl (fun v e => w2step l a (w1step a v e) e) 500
theorem fold_suc {α β : Type} {f : β → α → β} {b : β} {l : List α} {i : Nat} (hi : i < l.length) : (l.take (i + 1)).foldl f b = f ((l.take i).foldl f b) l[i] := by
  rw [List.take_succ_eq_append_getElem hi, List.foldl_append]
  rfl
set_option maxHeartbeats 4000000 in
theorem r_worth {g : Nat → Nat → Int32} {S : XH} {P : XP} {l : List R6} {a : Int32} (hR : RM g S) (hJ : JM g 4 l)
    (h : P (.inl (some (xv_i (worthOf l a)))) S) : Y_R_worth 0 0 [xv_r 15 0, xv_i a] S P := by
  have j2 : 1200 * 4 + l.length ≤ 8800 := jcap_le (by decide) hJ.2.1
  have j1 := hJ.1
  have loop : ∀ n i (j4 : Option XV), l.length - i = n → i ≤ l.length →
      x_go b_R_worth P 9 [some (xv_r 15 0), some (xv_i a), some (xv_i ((l.take i).foldl (fun v e => w2step l a (w1step a v e) e) 500)), some (xv_i (Int32.ofNat (1200 * 4 + i))), j4] [] S 0 0 := by
    intro n
    induction n with
    | zero =>
      intro i j4 hn hi
      have e : i = l.length := by omega
      refine x_go.run mn_R_worth 40 ?_
      refine ⟨nl rfl, rfl, nl rfl, 0, 0, Nat.zero_le _, Nat.zero_le _, r_at (w := 4) ?_⟩
      refine ⟨nl rfl, _, _, hR.1, rfl, ?_⟩
      refine ⟨_, _, hR.2.1 6 rfl, z_in (k := 4) (by decide) (by decide), ?_⟩
      rw [show (4 : Int32).toNatClampNeg = 4 from rfl, j1]
      refine ⟨fun c => ?_, fun c => (c ((jm_head j2 hi).mpr e)).elim⟩
      rw [e, List.take_length]
      exact h
    | succ n ih =>
      intro i j4 hn hi
      have hi' : i < l.length := by omega
      obtain ⟨q1, q2, q3, q4⟩ := hJ.2.2 i hi'
      have hnx : ∀ j4, x_go b_R_worth P 129 [some (xv_r 15 0), some (xv_i a), some (xv_i (w2step l a (w1step a ((l.take i).foldl (fun v e => w2step l a (w1step a v e) e) 500) l[i]) l[i])), some (xv_i (Int32.ofNat (1200 * 4 + i))), j4] [] S 0 0 := by
        intro j4
        have := ih (i + 1) j4 (by omega) (by omega)
        rw [fold_suc hi', ← Nat.add_assoc, ← z_suc] at this
        exact x_go.run mn_R_worth 2 this
      generalize (l.take i).foldl (fun v e => w2step l a (w1step a v e) e) 500 = v at hnx ⊢
      have two : x_go b_R_worth P 63 [some (xv_r 15 0), some (xv_i a), some (xv_i (w1step a v l[i])), some (xv_i (Int32.ofNat (1200 * 4 + i))), j4] [] S 0 0 := by
        generalize w1step a v l[i] = v1 at hnx ⊢
        refine x_go.run mn_R_worth 70 ?_
        refine ⟨nl rfl, _, _, hR.1, rfl, ?_⟩
        refine ⟨_, _, hR.2.1 0 rfl, z_in (by show _ < 8800; omega) (by decide), ?_⟩
        rw [z_nat (by omega)]
        rw [q1]
        refine ⟨fun c => ?_, fun c => ?_⟩
        · have := hnx j4
          unfold w2step at this
          rw [if_neg (fun z => c z.1)] at this
          exact x_go.back mn_R_worth this
        have c7 : l[i].1 = 7 := Classical.not_not.mp c
        refine ⟨nl rfl, _, _, hR.1, rfl, ?_⟩
        refine ⟨_, _, hR.2.1 3 rfl, z_in (by show _ < 8800; omega) (by decide), ?_⟩
        rw [z_nat (by omega)]
        rw [q4.2.2 (Or.inr (Or.inr c7))]
        refine ⟨fun c => ?_, fun c => ?_⟩
        · have := hnx j4
          unfold w2step at this
          rw [if_neg (fun z => Int32.not_lt.mpr c z.2.1)] at this
          exact x_go.back mn_R_worth this
        have cp : 0 < l[i].2.2.2.2.1 := Int32.not_le.mp c
        refine ⟨nl rfl, _, _, hR.1, rfl, ?_⟩
        refine ⟨_, _, hR.2.1 1 rfl, z_in (by show _ < 8800; omega) (by decide), ?_⟩
        rw [z_nat (by omega)]
        refine ⟨nl rfl, _, _, hR.1, rfl, ?_⟩
        refine ⟨_, _, hR.2.1 2 rfl, z_in (by show _ < 8800; omega) (by decide), ?_⟩
        rw [z_nat (by omega)]
        rw [q2, q3]
        refine ⟨nl rfl, ⟨_, hR.1⟩, rfl, nl rfl, 0, 0, Nat.zero_le _, Nat.zero_le _, r_find (w := 4) hR (by decide) hJ (fun hno => ?_) (fun k hk z1 z2 => ?_)⟩
        · have := hnx (some (xv_i (-1)))
          unfold w2step at this
          have hf : fR l 6 l[i].2.1 l[i].2.2.1 = none := fR_none.mpr fun e he => by
            obtain ⟨k, hk, rfl⟩ := List.mem_iff_getElem.mp he
            exact hno k hk
          rw [hf, if_neg (fun z => Bool.false_ne_true z.2.2)] at this
          exact ⟨fun _ => x_go.back mn_R_worth this, fun c => (c (by decide)).elim⟩
        · have := hnx (some (xv_i (Int32.ofNat (1200 * 4 + k))))
          unfold w2step at this
          rw [fR_first hk z1 z2] at this
          refine ⟨fun c => (z_neg (by omega) c).elim, fun _ => ?_⟩
          refine ⟨nl rfl, _, _, hR.1, rfl, ?_⟩
          refine ⟨_, _, hR.2.1 3 rfl, z_in (by show _ < 8800; omega) (by decide), ?_⟩
          rw [z_nat (by omega)]
          rw [((hJ.2.2 k hk).2.2.2.1 (Or.inr z1.1)).1]
          refine ⟨fun c => ?_, fun c => ?_⟩
          · rw [if_neg (fun z => c (by simpa using z.2.2))] at this
            exact x_go.back mn_R_worth this
          · rw [if_pos ⟨c7, cp, by simpa using c⟩] at this
            refine ⟨nl rfl, _, _, hR.1, rfl, ?_⟩
            refine ⟨_, _, hR.2.1 3 rfl, z_in (by show _ < 8800; omega) (by decide), ?_⟩
            rw [z_nat (by omega)]
            rw [q4.2.2 (Or.inr (Or.inr c7))]
            exact x_go.back mn_R_worth (x_go.run mn_R_worth 2 this)
      refine x_go.run mn_R_worth 70 ?_
      refine ⟨nl rfl, rfl, nl rfl, 0, 0, Nat.zero_le _, Nat.zero_le _, r_at (w := 4) ?_⟩
      refine ⟨nl rfl, _, _, hR.1, rfl, ?_⟩
      refine ⟨_, _, hR.2.1 6 rfl, z_in (k := 4) (by decide) (by decide), ?_⟩
      rw [show (4 : Int32).toNatClampNeg = 4 from rfl, j1]
      refine ⟨fun c => absurd ((jm_head j2 hi).mp c) (by omega), fun _ => ?_⟩
      unfold w1step at two
      refine ⟨nl rfl, _, _, hR.1, rfl, ?_⟩
      refine ⟨_, _, hR.2.1 0 rfl, z_in (by show _ < 8800; omega) (by decide), ?_⟩
      rw [z_nat (by omega)]
      rw [q1]
      refine ⟨fun c => ?_, fun c => ?_⟩
      · rw [if_neg (fun z => c z.1)] at two
        exact x_go.back mn_R_worth two
      have c6 : l[i].1 = 6 := Classical.not_not.mp c
      refine ⟨nl rfl, _, _, hR.1, rfl, ?_⟩
      refine ⟨_, _, hR.2.1 3 rfl, z_in (by show _ < 8800; omega) (by decide), ?_⟩
      rw [z_nat (by omega)]
      rw [(q4.1 (Or.inr c6)).1]
      refine ⟨fun c => ?_, fun c => ?_⟩
      · rw [if_neg (fun z => c z.2.1)] at two
        exact x_go.back mn_R_worth two
      have ca := Classical.not_not.mp c
      refine ⟨nl rfl, _, _, hR.1, rfl, ?_⟩
      refine ⟨_, _, hR.2.1 5 rfl, z_in (by show _ < 8800; omega) (by decide), ?_⟩
      rw [z_nat (by omega)]
      rw [q4.2.1 c6]
      refine ⟨fun c => ?_, fun c => ?_⟩
      · rw [if_neg (fun z => c z.2.2)] at two
        exact x_go.back mn_R_worth two
      rw [if_pos ⟨c6, ca, Classical.not_not.mp c⟩] at two
      refine ⟨nl rfl, _, _, hR.1, rfl, ?_⟩
      refine ⟨_, _, hR.2.1 4 rfl, z_in (by show _ < 8800; omega) (by decide), ?_⟩
      rw [z_nat (by omega)]
      rw [(q4.1 (Or.inr c6)).2]
      exact x_go.back mn_R_worth (x_go.run mn_R_worth 2 two)
  refine x_go.run mn_R_worth 5 ?_
  refine ⟨nl rfl, rfl, nl rfl, 0, 0, Nat.zero_le _, Nat.zero_le _, r_at (w := 4) ?_⟩
  exact loop _ 0 none rfl (Nat.zero_le _)
