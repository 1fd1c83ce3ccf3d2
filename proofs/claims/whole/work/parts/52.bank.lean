def t1step (s : Int32) (e : R6) : Int32 := if e.1 = 6 ∧ e.2.2.2.2.2 = 0 then s + e.2.2.2.2.1 else s
def t2step (s : Int32) (e : R6) : Int32 := if e.1 = 7 then s - e.2.2.2.2.1 else s
def tstep (m t : Int32) (s : Int32) (e : R6) : Int32 := if e.2.1 = m ∧ e.2.2.1 ≤ t then t2step (t1step s e) e else s
/-- what machine m took up to trace t, as the bank has it -/
def totOf (l : List R6) (m t : Int32) : Int32 := l.foldl (tstep m t) 0
def oans (o : Option R6) : Int32 := match o with
  | some e => e.2.2.2.2.2
  | none => 0
/-- the answer to a request -/
def dansB (d : DS) (e : R6) : Int32 := if fR (d.2 4) 6 e.2.1 e.2.2.1 = none then (if fR (d.2 4) 7 e.2.1 e.2.2.1 = none then (if worthOf (d.2 4) e.2.2.2.1 < e.2.2.2.2.1 then 1 else 0) else 3) else oans (fR (d.2 4) 6 e.2.1 e.2.2.1)
def oacc32 (o : Option R6) : Int32 := match o with
  | some e => e.2.2.2.1
  | none => 0
/-- is it granted -/
def grant (d : DS) (e : R6) : Prop := fR (d.2 4) 6 e.2.1 e.2.2.1 ≠ none ∧ oans (fR (d.2 4) 6 e.2.1 e.2.2.1) = 0
noncomputable def dgb (d : DS) (e : R6) : R6 := (7, e.2.1, e.2.2.1, (if fR (d.2 4) 6 e.2.1 e.2.2.1 ≠ none ∧ oans (fR (d.2 4) 6 e.2.1 e.2.2.1) = 0 then oacc32 (fR (d.2 4) 6 e.2.1 e.2.2.1) else 0), (if fR (d.2 4) 6 e.2.1 e.2.2.1 ≠ none ∧ oans (fR (d.2 4) 6 e.2.1 e.2.2.1) = 0 then e.2.2.2.2.1 else 0), 0)
noncomputable def dbank (d : DS) (e : R6) : DS × Bool :=
  if e.1 = 200 then (if fR (d.2 4) 6 e.2.1 e.2.2.1 = none then dthen (drecB d 4 (6, e.2.1, e.2.2.1, e.2.2.2.1, e.2.2.2.2.1, dansB d e)) fun d1 => (dsent d1 (210, e.2.1, e.2.2.1, 0, 0, dansB d e), false) else (dsent d (210, e.2.1, e.2.2.1, 0, 0, dansB d e), false))
  else if e.1 = 420 then (if fR (d.2 4) 7 e.2.1 e.2.2.1 = none then dthen (drecB d 4 (dgb d e)) fun d1 => (dsent d1 (430, e.2.1, e.2.2.1, 0, 0, 0), false) else (dsent d (430, e.2.1, e.2.2.1, 0, 0, 0), false))
  else (dsent d (510, e.2.1, e.2.2.1, 0, 0, if totOf (d.2 4) e.2.1 e.2.2.1 = e.2.2.2.2.1 then 0 else 4), false)
/-- find, as the model gives its place -/
def fpl (l : List R6) (w : Nat) (kind mach tr : Int32) (v : Int32) : Prop := (fR l kind mach tr = none ∧ v = -1) ∨ ∃ i, ∃ h : i < l.length, fR l kind mach tr = some l[i] ∧ is6 kind mach tr l[i] ∧ v = Int32.ofNat (1200 * w + i)
theorem r_findP {g : Nat → Nat → Int32} {S : XH} {P : XP} {w : Nat} {l : List R6} {kind mach tr : Int32} (hR : RM g S) (hw : w < 5) (hJ : JM g w l)
    (h : ∀ v, fpl l w kind mach tr v → P (.inl (some (xv_i v))) S) : Y_R_find 0 0 [xv_r 15 0, xv_i (Int32.ofNat w), xv_i kind, xv_i mach, xv_i tr] S P := by
  refine r_find hR hw hJ (fun hno => h _ (Or.inl ⟨fR_none.mpr fun e he => ?_, rfl⟩)) (fun i hi z1 z2 => h _ (Or.inr ⟨i, hi, fR_first hi z1 z2, z1, rfl⟩))
  obtain ⟨k, hk, rfl⟩ := List.mem_iff_getElem.mp he
  exact hno k hk
theorem fpl.neg {l : List R6} {w : Nat} {kind mach tr v : Int32} (h : fpl l w kind mach tr v) (hc : 1200 * w + l.length ≤ 8800) : v < 0 ↔ fR l kind mach tr = none := by
  rcases h with ⟨h1, rfl⟩ | ⟨i, hi, h1, h2, rfl⟩
  · exact ⟨fun _ => h1, fun _ => by decide⟩
  · exact ⟨fun q => (z_neg (by omega) q).elim, fun q => by rw [h1] at q; cases q⟩
set_option maxHeartbeats 4000000 in
theorem r_bank {d : DS} {g : Nat → Nat → Int32} {S : XH} {P : XP} {k nx : Nat} (hR : RM g S) (hD : MD d g) (hk : k < (d.2 5).length) (hc : (d.2 4).length < 4000) (hx : S 19 nx = none)
    (h : mO (dbank d (d.2 5)[k]) g S nx P) : Y_R_bank 1 6 [xv_r 15 0, xv_i (Int32.ofNat k)] S P := by
  have hJ := hD.2.2.1 4 (by decide)
  have j2 : 1200 * 4 + (d.2 4).length ≤ 8800 := jcap_le (by decide) hJ.2.1
  have hMk := hD.2.2.2.2.2 k hk
  have hM2 := hD.2.2.2.2.1
  obtain ⟨m1, m2, m3, m4, m5, m6⟩ := hMk
  generalize (d.2 5)[k] = e at h m1 m2 m3 m4 m5 m6
  unfold dbank at h
  have k3 : k < 3000 := by omega
  refine x_go.run mn_R_bank 34 ?_
  refine ⟨nl rfl, _, _, hR.1, rfl, ?_⟩
  refine ⟨_, _, hR.2.1 24 rfl, z_in (by exact k3) (by decide), ?_⟩
  rw [z_nat (by omega)]
  refine ⟨nl rfl, _, _, hR.1, rfl, ?_⟩
  refine ⟨_, _, hR.2.1 22 rfl, z_in (by exact k3) (by decide), ?_⟩
  rw [z_nat (by omega)]
  rw [m2, m3]
  refine ⟨nl rfl, ⟨_, hR.1⟩, rfl, nl rfl, 0, 0, Nat.zero_le _, Nat.zero_le _, r_findP (w := 4) hR (by decide) hJ fun v6 h6 => ?_⟩
  refine ⟨nl rfl, ⟨_, hR.1⟩, rfl, nl rfl, 0, 0, Nat.zero_le _, Nat.zero_le _, r_findP (w := 4) hR (by decide) hJ fun v7 h7 => ?_⟩
  have n6 := h6.neg j2
  have n7 := h7.neg j2
  refine ⟨nl rfl, _, _, hR.1, rfl, ?_⟩
  refine ⟨_, _, hR.2.1 6 rfl, z_in (k := 4) (by decide) (by decide), ?_⟩
  rw [show (4 : Int32).toNatClampNeg = 4 from rfl, hJ.1]
  refine ⟨fun _ => ?_, fun c => ?_⟩
  rotate_left
  · exfalso
    have := (z_eq (b := 4000) (by omega) (by decide)).mp (Classical.not_not.mp c)
    omega
  have send : ∀ (d1 : DS) (g1 : Nat → Nat → Int32) (S1 : XH) (ty a u7 : Int32) (Q : XP), RM g1 S1 → MD d1 g1 → mN (dsent d1 (ty, e.2.1, e.2.2.1, 0, 0, a)) g1 S1 (fun S' => Q (.inl none) S') →
      Y_R_sent 0 0 [xv_r 15 0, xv_i ty, xv_i 0, xv_i 0, xv_i e.2.2.1, xv_i a, xv_i e.2.1] S1 Q := by
    intro d1 g1 S1 ty a u7 Q a1 a2 hq
    exact r_sent (e := (ty, e.2.1, e.2.2.1, 0, 0, a)) a1 a2 fun g2 S2 b1 b2 b3 b4 b5 => hq g2 S2 b1 b2 (fun k hk => b3 k (by omega)) b4 b5
  have main : x_go b_R_bank P 55 [some (xv_r 15 0), some (xv_i (Int32.ofNat k)), some (xv_i e.2.1), some (xv_i e.2.2.1), some (xv_i v6), some (xv_i v7), some (xv_i 0), none, none] [] S 1 6 := by
    refine x_go.run mn_R_bank 80 ?_
    refine ⟨nl rfl, _, _, hR.1, rfl, ?_⟩
    refine ⟨_, _, hR.2.1 19 rfl, z_in (by exact k3) (by decide), ?_⟩
    rw [z_nat (by omega)]
    rw [m1]
    refine ⟨fun c => ?_, fun c => ?_⟩
    · rw [if_neg (show ¬ e.1 = 200 from c)] at h
      refine ⟨nl rfl, _, _, hR.1, rfl, ?_⟩
      refine ⟨_, _, hR.2.1 19 rfl, z_in (by exact k3) (by decide), ?_⟩
      rw [z_nat (by omega)]
      rw [m1]
      refine ⟨fun c => ?_, fun c => ?_⟩
      · rw [if_neg (show ¬ e.1 = 420 from c)] at h
        have loop : ∀ n i, (d.2 4).length - i = n → i ≤ (d.2 4).length →
            x_go b_R_bank P 250 [some (xv_r 15 0), some (xv_i (Int32.ofNat k)), some (xv_i e.2.1), some (xv_i e.2.2.1), some (xv_i v6), some (xv_i v7), some (xv_i 0), some (xv_i (((d.2 4).take i).foldl (tstep e.2.1 e.2.2.1) 0)), some (xv_i (Int32.ofNat (1200 * 4 + i)))] [] S 1 6 := by
          intro n
          induction n with
          | zero =>
            intro i hn hi
            have ei : i = (d.2 4).length := by omega
            refine x_go.run mn_R_bank 40 ?_
            refine ⟨nl rfl, rfl, nl rfl, 0, 0, Nat.zero_le _, Nat.zero_le _, r_at (w := 4) ?_⟩
            refine ⟨nl rfl, _, _, hR.1, rfl, ?_⟩
            refine ⟨_, _, hR.2.1 6 rfl, z_in (k := 4) (by decide) (by decide), ?_⟩
            rw [show (4 : Int32).toNatClampNeg = 4 from rfl, hJ.1]
            refine ⟨fun c => ?_, fun c => (c ((jm_head j2 hi).mpr ei)).elim⟩
            rw [ei, List.take_length]
            refine ⟨nl rfl, _, _, hR.1, rfl, ?_⟩
            refine ⟨_, _, hR.2.1 21 rfl, z_in (by exact k3) (by decide), ?_⟩
            rw [z_nat (by omega)]
            rw [m5]
            have fin : ∀ a : Int32, a = (if totOf (d.2 4) e.2.1 e.2.2.1 = e.2.2.2.2.1 then 0 else 4) → mN (dsent d (510, e.2.1, e.2.2.1, 0, 0, a)) g S (fun S' => P (.inl none) S') := by
              intro a ha
              rw [ha]
              exact h.1 rfl
            refine ⟨fun c => ?_, fun c => ?_⟩
            · refine ⟨nl rfl, ⟨_, hR.1⟩, rfl, nl rfl, 0, 0, Nat.zero_le _, Nat.zero_le _, send d g S 510 4 0 _ hR hD ?_⟩
              exact fin 4 (by rw [if_neg (show ¬ totOf (d.2 4) e.2.1 e.2.2.1 = e.2.2.2.2.1 from c)])
            · refine ⟨nl rfl, ⟨_, hR.1⟩, rfl, nl rfl, 0, 0, Nat.zero_le _, Nat.zero_le _, send d g S 510 0 0 _ hR hD ?_⟩
              exact fin 0 (by rw [if_pos (show totOf (d.2 4) e.2.1 e.2.2.1 = e.2.2.2.2.1 from Classical.not_not.mp c)])
          | succ n ih =>
            intro i hn hi
            have hi' : i < (d.2 4).length := by omega
            obtain ⟨q1, q2, q3, q4⟩ := hJ.2.2 i hi'
            have hnx : x_go b_R_bank P 349 [some (xv_r 15 0), some (xv_i (Int32.ofNat k)), some (xv_i e.2.1), some (xv_i e.2.2.1), some (xv_i v6), some (xv_i v7), some (xv_i 0), some (xv_i (tstep e.2.1 e.2.2.1 (((d.2 4).take i).foldl (tstep e.2.1 e.2.2.1) 0) (d.2 4)[i])), some (xv_i (Int32.ofNat (1200 * 4 + i)))] [] S 1 6 := by
              have := ih (i + 1) (by omega) (by omega)
              rw [fold_suc hi', ← Nat.add_assoc, ← z_suc] at this
              exact x_go.run mn_R_bank 2 this
            generalize ((d.2 4).take i).foldl (tstep e.2.1 e.2.2.1) 0 = v at hnx ⊢
            unfold tstep at hnx
            refine x_go.run mn_R_bank 60 ?_
            refine ⟨nl rfl, rfl, nl rfl, 0, 0, Nat.zero_le _, Nat.zero_le _, r_at (w := 4) ?_⟩
            refine ⟨nl rfl, _, _, hR.1, rfl, ?_⟩
            refine ⟨_, _, hR.2.1 6 rfl, z_in (k := 4) (by decide) (by decide), ?_⟩
            rw [show (4 : Int32).toNatClampNeg = 4 from rfl, hJ.1]
            refine ⟨fun c => absurd ((jm_head j2 hi).mp c) (by omega), fun _ => ?_⟩
            refine ⟨nl rfl, _, _, hR.1, rfl, ?_⟩
            refine ⟨_, _, hR.2.1 1 rfl, z_in (by show _ < 8800; omega) (by decide), ?_⟩
            rw [z_nat (by omega)]
            rw [q2]
            refine ⟨fun c => ?_, fun c => ?_⟩
            · rw [if_neg (fun z => c z.1)] at hnx
              exact x_go.back mn_R_bank hnx
            have cm := Classical.not_not.mp c
            refine ⟨nl rfl, _, _, hR.1, rfl, ?_⟩
            refine ⟨_, _, hR.2.1 2 rfl, z_in (by show _ < 8800; omega) (by decide), ?_⟩
            rw [z_nat (by omega)]
            rw [q3]
            refine ⟨fun c => ?_, fun c => ?_⟩
            rotate_left
            · rw [if_neg (fun z => c z.2)] at hnx
              exact x_go.back mn_R_bank (x_go.run mn_R_bank 1 hnx)
            rw [if_pos ⟨cm, c⟩] at hnx
            have two : x_go b_R_bank P 325 [some (xv_r 15 0), some (xv_i (Int32.ofNat k)), some (xv_i e.2.1), some (xv_i e.2.2.1), some (xv_i v6), some (xv_i v7), some (xv_i 0), some (xv_i (t1step v (d.2 4)[i])), some (xv_i (Int32.ofNat (1200 * 4 + i)))] [] S 1 6 := by
              generalize t1step v (d.2 4)[i] = v1 at hnx ⊢
              unfold t2step at hnx
              refine x_go.run mn_R_bank 40 ?_
              refine ⟨nl rfl, _, _, hR.1, rfl, ?_⟩
              refine ⟨_, _, hR.2.1 0 rfl, z_in (by show _ < 8800; omega) (by decide), ?_⟩
              rw [z_nat (by omega)]
              rw [q1]
              refine ⟨fun c => ?_, fun c => ?_⟩
              · rw [if_neg c] at hnx
                exact x_go.back mn_R_bank hnx
              have c7 := Classical.not_not.mp c
              rw [if_pos c7] at hnx
              refine ⟨nl rfl, _, _, hR.1, rfl, ?_⟩
              refine ⟨_, _, hR.2.1 3 rfl, z_in (by show _ < 8800; omega) (by decide), ?_⟩
              rw [z_nat (by omega)]
              rw [q4.2.2 (Or.inr (Or.inr c7))]
              exact x_go.back mn_R_bank (x_go.run mn_R_bank 2 hnx)
            unfold t1step at two
            refine ⟨nl rfl, _, _, hR.1, rfl, ?_⟩
            refine ⟨_, _, hR.2.1 0 rfl, z_in (by show _ < 8800; omega) (by decide), ?_⟩
            rw [z_nat (by omega)]
            rw [q1]
            refine ⟨fun c => ?_, fun c => ?_⟩
            · rw [if_neg (fun z => c z.1)] at two
              exact x_go.back mn_R_bank two
            have c6 := Classical.not_not.mp c
            refine ⟨nl rfl, _, _, hR.1, rfl, ?_⟩
            refine ⟨_, _, hR.2.1 5 rfl, z_in (by show _ < 8800; omega) (by decide), ?_⟩
            rw [z_nat (by omega)]
            rw [q4.2.1 c6]
            refine ⟨fun c => ?_, fun c => ?_⟩
            · rw [if_neg (fun z => c z.2)] at two
              exact x_go.back mn_R_bank two
            rw [if_pos ⟨c6, Classical.not_not.mp c⟩] at two
            refine ⟨nl rfl, _, _, hR.1, rfl, ?_⟩
            refine ⟨_, _, hR.2.1 4 rfl, z_in (by show _ < 8800; omega) (by decide), ?_⟩
            rw [z_nat (by omega)]
            rw [(q4.1 (Or.inr c6)).2]
            exact x_go.back mn_R_bank (x_go.run mn_R_bank 2 two)
        refine x_go.back mn_R_bank (x_go.run mn_R_bank 5 ?_)
        refine ⟨nl rfl, rfl, nl rfl, 0, 0, Nat.zero_le _, Nat.zero_le _, r_at (w := 4) ?_⟩
        exact loop _ 0 rfl (Nat.zero_le _)
      · rw [if_pos (show e.1 = 420 from Classical.not_not.mp c)] at h
        refine ⟨fun c7 => ?_, fun c7 => ?_⟩
        · have c7 : ¬ fR (d.2 4) 7 e.2.1 e.2.2.1 = none := fun z => Int32.not_lt.mpr c7 (n7.mpr z)
          rw [if_neg c7] at h
          refine ⟨nl rfl, ⟨_, hR.1⟩, rfl, nl rfl, 0, 0, Nat.zero_le _, Nat.zero_le _, send d g S 430 0 0 _ hR hD ?_⟩
          exact h.1 rfl
        · have c7 : fR (d.2 4) 7 e.2.1 e.2.2.1 = none := n7.mp (Int32.not_le.mp c7)
          rw [if_pos c7] at h
          refine ⟨fun _ => ?_, fun c => (c rfl).elim⟩
          have wr : ∀ v : Int32, v = (if fR (d.2 4) 6 e.2.1 e.2.2.1 ≠ none ∧ oans (fR (d.2 4) 6 e.2.1 e.2.2.1) = 0 then e.2.2.2.2.1 else 0) → x_go b_R_bank P 221 [some (xv_r 15 0), some (xv_i (Int32.ofNat k)), some (xv_i e.2.1), some (xv_i e.2.2.1), some (xv_i v6), some (xv_i v7), some (xv_i 0), none, none] [xv_i v, xv_i e.2.2.1, xv_i e.2.1, xv_i 7, xv_i 4, xv_r 15 0] S 1 6 := by
            intro v hv
            refine x_go.run mn_R_bank 20 ?_
            refine ⟨nl rfl, ⟨_, hR.1⟩, rfl, nl rfl, 1, 6, nl rfl, nl rfl, r_rec (w := 4) (nx := nx) (e := dgb d e) hR hD (by decide) hc (by rw [hv]; exact mrel_v (Or.inr (Or.inr rfl))) hx ⟨fun hf g' S' a b c e i => ?_, fun hf => ?_⟩⟩
            · rw [dthen_f hf] at h
              have h := h.tr c e i
              refine ⟨nl rfl, ⟨_, a.1⟩, rfl, nl rfl, 0, 0, Nat.zero_le _, Nat.zero_le _, send _ g' S' 430 0 0 _ a b ?_⟩
              exact h.1 rfl
            · rw [dthen_t hf] at h
              exact h.2 hf
          refine ⟨fun c6 => ?_, fun c6 => ?_⟩
          · have c6 := n6.mp c6
            exact x_go.back mn_R_bank (x_go.run mn_R_bank 1 (wr 0 (by rw [if_neg (fun z => z.1 c6)])))
          · refine ⟨nl rfl, _, _, hR.1, rfl, ?_⟩
            rcases h6 with ⟨z1, rfl⟩ | ⟨i, hi, z1, z2, rfl⟩
            · exact (c6 (by decide)).elim
            rw [z1] at wr
            refine ⟨_, _, hR.2.1 5 rfl, z_in (by show _ < 8800; omega) (by decide), ?_⟩
            rw [z_nat (by omega), (hJ.2.2 i hi).2.2.2.2.1 z2.1]
            refine ⟨fun c => ?_, fun c => ?_⟩
            · exact x_go.back mn_R_bank (x_go.run mn_R_bank 1 (wr 0 (by rw [if_neg (fun z => c z.2)])))
            · refine ⟨nl rfl, _, _, hR.1, rfl, ?_⟩
              refine ⟨_, _, hR.2.1 21 rfl, z_in (by exact k3) (by decide), ?_⟩
              rw [z_nat (by omega)]
              rw [m5]
              exact x_go.back mn_R_bank (x_go.run mn_R_bank 1 (wr _ (by rw [if_pos ⟨(fun z => by cases z), Classical.not_not.mp c⟩])))
    · rw [if_pos (show e.1 = 200 from Classical.not_not.mp c)] at h
      have at115 : ∀ a : Int32, a = dansB d e → x_go b_R_bank P 115 [some (xv_r 15 0), some (xv_i (Int32.ofNat k)), some (xv_i e.2.1), some (xv_i e.2.2.1), some (xv_i v6), some (xv_i v7), some (xv_i 0), none, none] [xv_i a] S 1 6 := by
        intro a ha
        rw [← ha] at h
        refine x_go.run mn_R_bank 60 ?_
        refine ⟨fun c6 => ?_, fun c6 => ?_⟩
        · have c6 : ¬ fR (d.2 4) 6 e.2.1 e.2.2.1 = none := fun z => Int32.not_lt.mpr c6 (n6.mpr z)
          rw [if_neg c6] at h
          refine ⟨nl rfl, ⟨_, hR.1⟩, rfl, nl rfl, 0, 0, Nat.zero_le _, Nat.zero_le _, send d g S 210 a 0 _ hR hD ?_⟩
          exact h.1 rfl
        · have c6 : fR (d.2 4) 6 e.2.1 e.2.2.1 = none := n6.mp (Int32.not_le.mp c6)
          rw [if_pos c6] at h
          refine ⟨fun _ => ?_, fun c => (c rfl).elim⟩
          refine ⟨nl rfl, _, _, hR.1, rfl, ?_⟩
          refine ⟨_, _, hR.2.1 20 rfl, z_in (by exact k3) (by decide), ?_⟩
          rw [z_nat (by omega)]
          refine ⟨nl rfl, _, _, hR.1, rfl, ?_⟩
          refine ⟨_, _, hR.2.1 21 rfl, z_in (by exact k3) (by decide), ?_⟩
          rw [z_nat (by omega)]
          rw [m4, m5]
          refine ⟨nl rfl, ⟨_, hR.1⟩, rfl, nl rfl, 1, 6, nl rfl, nl rfl, r_rec (w := 4) (nx := nx) (e := (6, e.2.1, e.2.2.1, e.2.2.2.1, e.2.2.2.2.1, a)) hR hD (by decide) hc (mrel_a (Or.inr rfl)) hx ⟨fun hf g' S' b1 b2 b3 b4 b5 => ?_, fun hf => ?_⟩⟩
          · rw [dthen_f hf] at h
            have h := h.tr b3 b4 b5
            refine ⟨nl rfl, ⟨_, b1.1⟩, rfl, nl rfl, 0, 0, Nat.zero_le _, Nat.zero_le _, send _ g' S' 210 a 0 _ b1 b2 ?_⟩
            exact h.1 rfl
          · rw [dthen_t hf] at h
            exact h.2 hf
      unfold dansB at at115
      refine ⟨fun c6 => ?_, fun c6 => ?_⟩
      · rw [if_pos (n6.mp c6)] at at115
        refine ⟨fun c7 => ?_, fun c7 => ?_⟩
        · rw [if_pos (n7.mp c7)] at at115
          refine ⟨nl rfl, _, _, hR.1, rfl, ?_⟩
          refine ⟨_, _, hR.2.1 20 rfl, z_in (by exact k3) (by decide), ?_⟩
          rw [z_nat (by omega)]
          rw [m4]
          refine ⟨nl rfl, ⟨_, hR.1⟩, rfl, nl rfl, 0, 0, Nat.zero_le _, Nat.zero_le _, (r_worth hR hJ ?_)⟩
          refine ⟨nl rfl, _, _, hR.1, rfl, ?_⟩
          refine ⟨_, _, hR.2.1 21 rfl, z_in (by exact k3) (by decide), ?_⟩
          rw [z_nat (by omega)]
          rw [m5]
          refine ⟨fun c => ?_, fun c => ?_⟩
          · exact x_go.back mn_R_bank (x_go.run mn_R_bank 1 (at115 0 (by rw [if_neg (Int32.not_lt.mpr c)])))
          · exact x_go.back mn_R_bank (x_go.run mn_R_bank 2 (at115 1 (by rw [if_pos (Int32.not_le.mp c)])))
        · rw [if_neg (fun z => c7 (n7.mpr z))] at at115
          exact x_go.back mn_R_bank (x_go.run mn_R_bank 2 (at115 3 rfl))
      · rw [if_neg (fun z => c6 (n6.mpr z))] at at115
        refine ⟨nl rfl, _, _, hR.1, rfl, ?_⟩
        rcases h6 with ⟨z1, rfl⟩ | ⟨i, hi, z1, z2, rfl⟩
        · exact (c6 (by decide)).elim
        rw [z1] at at115
        refine ⟨_, _, hR.2.1 5 rfl, z_in (by show _ < 8800; omega) (by decide), ?_⟩
        rw [z_nat (by omega), (hJ.2.2 i hi).2.2.2.2.1 z2.1]
        exact x_go.back mn_R_bank (x_go.run mn_R_bank 1 (at115 _ rfl))
  exact x_go.back mn_R_bank (x_go.run mn_R_bank 2 main)
