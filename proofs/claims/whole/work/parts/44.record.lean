/-- the state after a call of record that threw, and that didn't -/
theorem drec_f {d : DS} {w : Nat} {e : R6} (h : dfails d w) : drec d w e = doff (dset (if d.1 8 w = 16 then dapp d w e else d) 8 w 17) w := if_pos (dfailsb_iff.mpr h)
theorem drec_n {d : DS} {w : Nat} {e : R6} (h : ¬ dfails d w) : drec d w e = dset (dapp d w e) 7 w (d.1 7 w - 1) := if_neg (fun q => h (dfailsb_iff.mp q))
theorem r_record {d : DS} {g : Nat → Nat → Int32} {S : XH} {P : XP} {w nx : Nat} {e : R6} {a b c : Int32} (hR : RM g S) (hD : MD d g) (hw : w < 5) (hc : (d.2 w).length < jcap w) (he : mrel e a b c) (hx : S 19 nx = none)
    (h0 : ¬ dfails d w → ∀ g' S', RM g' S' → MD (drec d w e) g' → (∀ k, 11 ≤ k → g' k = g k) → fm S S' → S' 19 = S 19 → P (.inl none) S')
    (h1 : dfails d w → ∀ g' S', RM g' S' → MD (drec d w e) g' → (∀ k, 11 ≤ k → g' k = g k) → fm S S' → (∀ k, k ≠ nx → S' 19 k = S 19 k) → S' 19 nx = some (.inl (14, [])) → P (.inr (19, nx)) S') :
    Y_R_record 1 6 [xv_r 15 0, xv_i (Int32.ofNat w), xv_i e.1, xv_i e.2.1, xv_i e.2.2.1, xv_i a, xv_i b, xv_i c] S P := by
  have j2 := jcap_le hw (n := (d.2 w).length + 1) hc
  have j1 := (hD.2.2.1 w hw).1
  have e7 : g 7 = d.1 7 := hD.1 7 rfl
  have e8 : g 8 = d.1 8 := hD.1 8 rfl
  have e10 : g 10 = d.1 10 := hD.1 10 rfl
  have tail : ∀ (f : Int32) (v9 : Option XV) (d1 : DS) (g1 : Nat → Nat → Int32) (S1 : XH), RM g1 S1 → MD d1 g1 → (∀ k, 7 ≤ k → g1 k = g k) → fm S S1 → S1 19 = S 19 →
      (f = 0 → ¬ dfails d w ∧ d1 = dapp d w e) → (f = 1 → dfails d w ∧ d1 = (if d.1 8 w = 16 then dapp d w e else d)) → (f = 0 ∨ f = 1) →
      x_go b_R_record P 118 [some (xv_r 15 0), some (xv_i (Int32.ofNat w)), some (xv_i e.1), some (xv_i e.2.1), some (xv_i e.2.2.1), some (xv_i a), some (xv_i b), some (xv_i c), some (xv_i f), v9] [] S1 1 6 := by
    intro f v9 d1 g1 S1 hR1 hD1 hk hf h19 hf0 hf1 hff
    refine x_go.run mn_R_record 40 ?_
    refine ⟨fun cf => ?_, fun cf => ?_⟩
    · have ef : f = 1 := hff.resolve_left cf
      obtain ⟨hfl, ed⟩ := hf1 ef
      refine ⟨nl rfl, _, _, hR1.1, rfl, ?_⟩
      refine ⟨_, _, hR1.2.1 8 rfl, nl rfl, z_in (by exact hw) (by decide), ?_⟩
      rw [z_nat (by omega)]
      have hR2 := hR1.ast (n := 8) rfl (upd (g1 8) w 17)
      have hD2 := hD1.set (n := 8) rfl w 17
      refine ⟨fun c4 => ?_, fun c4 => ?_⟩
      · have h4 : w ≠ 4 := fun q => c4 (by rw [q]; rfl)
        refine ⟨nl rfl, _, _, hR2.1, rfl, ?_⟩
        refine ⟨_, _, hR2.2.1 10 rfl, nl rfl, z_in (by exact (show w < 4 by omega)) (by decide), ?_⟩
        rw [z_nat (by omega)]
        have hR3 := hR2.ast (n := 10) rfl (upd ((gs g1 8 (upd (g1 8) w 17)) 10) w 0)
        have hD3 := hD2.set (n := 10) rfl w 0
        refine ⟨nl rfl, nl rfl, nl rfl, 19, nx, nl rfl, ?_, ?_⟩
        · rw [x_up_ne (by omega), x_up_ne (by omega), h19]
          exact hx
        · refine h1 hfl _ _ (hR3.keep (x_up_k (by decide)) (x_up_k (by decide)) (x_up_k (by decide))) (by rw [drec_f hfl, ← ed]; unfold doff; rw [if_neg h4]; exact hD3) (fun k hk' => ?_) (((hf.up (by decide) (by decide)).up (by decide) (by decide)).up (by decide) (by decide)) (fun k hk' => ?_) (x_up_self _ _ _ _)
          · rw [gs_ne (by omega), gs_ne (by omega)]
            exact hk k (by omega)
          · rw [x_up_ne (by omega), x_up_ne (by omega), x_up_ne (by omega), h19]
      · have h4 : w = 4 := by
          have := Classical.not_not.mp c4
          exact (z_eq (by omega) (by decide)).mp this
        refine ⟨Or.inl rfl, _, hR2.1, nl rfl, nl rfl, ?_⟩
        have hR3 := hR2.put (n := 9) 0 (Or.inl rfl)
        have hD3 := hD2.set9 0
        refine ⟨nl rfl, nl rfl, nl rfl, 19, nx, nl rfl, ?_, ?_⟩
        · rw [x_up_ne (by omega), x_up_ne (by omega), h19]
          exact hx
        · refine h1 hfl _ _ (hR3.keep (x_up_k (by decide)) (x_up_k (by decide)) (x_up_k (by decide))) (by rw [drec_f hfl, ← ed]; unfold doff; rw [if_pos h4]; exact hD3) (fun k hk' => ?_) (((hf.up (by decide) (by decide)).up (by decide) (by decide)).up (by decide) (by decide)) (fun k hk' => ?_) (x_up_self _ _ _ _)
          · rw [gs_ne (by omega), gs_ne (by omega)]
            exact hk k (by omega)
          · rw [x_up_ne (by omega), x_up_ne (by omega), x_up_ne (by omega), h19]
    · have ef : f = 0 := Classical.not_not.mp cf
      obtain ⟨hfl, ed⟩ := hf0 ef
      refine ⟨nl rfl, _, _, hR1.1, rfl, ?_⟩
      refine ⟨_, _, hR1.2.1 7 rfl, z_in (by exact hw) (by decide), ?_⟩
      rw [z_nat (by omega)]
      refine ⟨_, _, hR1.2.1 7 rfl, nl rfl, z_in (by exact hw) (by decide), ?_⟩
      rw [z_nat (by omega), hk 7 (by decide), e7]
      have hR2 := hR1.ast (n := 7) rfl (upd (d.1 7) w (d.1 7 w - 1))
      have hD2 := hD1.set (n := 7) rfl w (d.1 7 w - 1)
      rw [hk 7 (by decide), e7, ed] at hD2
      exact h0 hfl _ _ hR2 (by rw [drec_n hfl]; exact hD2) (fun k hk' => by rw [gs_ne (by omega)]; exact hk k (by omega)) (hf.up (by decide) (by decide)) (by rw [x_up_k (by decide)]; exact h19)
  have write : ∀ (f : Int32), (f = 0 → ¬ dfails d w) → (f = 1 → dfails d w ∧ d.1 8 w = 16) → (f = 0 ∨ f = 1) →
      x_go b_R_record P 43 [some (xv_r 15 0), some (xv_i (Int32.ofNat w)), some (xv_i e.1), some (xv_i e.2.1), some (xv_i e.2.2.1), some (xv_i a), some (xv_i b), some (xv_i c), some (xv_i f), none] [] S 1 6 := by
    intro f hf0 hf1 hff
    refine x_go.run mn_R_record 8 ?_
    refine ⟨nl rfl, rfl, nl rfl, 0, 0, Nat.zero_le _, Nat.zero_le _, r_at ?_⟩
    refine ⟨nl rfl, _, _, hR.1, rfl, ?_⟩
    refine ⟨_, _, hR.2.1 6 rfl, z_in (by exact hw) (by decide), ?_⟩
    rw [z_nat (by omega)]
    rw [j1]
    show x_go b_R_record P 56 [some (xv_r 15 0), some (xv_i (Int32.ofNat w)), some (xv_i e.1), some (xv_i e.2.1), some (xv_i e.2.2.1), some (xv_i a), some (xv_i b), some (xv_i c), some (xv_i f), some (xv_i (Int32.ofNat (1200 * w) + Int32.ofNat (d.2 w).length))] [] S 1 6
    rw [z_add]
    refine x_go.run mn_R_record 51 ?_
    refine ⟨nl rfl, _, _, hR.1, rfl, ?_⟩
    refine ⟨_, _, hR.2.1 0 rfl, nl rfl, z_in (by show _ < 8800; omega) (by decide), ?_⟩
    rw [z_nat (by omega)]
    have hR0 := hR.ast (n := 0) rfl (upd (g 0) (1200 * w + (d.2 w).length) e.1)
    refine ⟨nl rfl, _, _, hR0.1, rfl, ?_⟩
    refine ⟨_, _, hR0.2.1 1 rfl, nl rfl, z_in (by show _ < 8800; omega) (by decide), ?_⟩
    rw [z_nat (by omega)]
    have hR1 := hR0.ast (n := 1) rfl (upd (g 1) (1200 * w + (d.2 w).length) e.2.1)
    refine ⟨nl rfl, _, _, hR1.1, rfl, ?_⟩
    refine ⟨_, _, hR1.2.1 2 rfl, nl rfl, z_in (by show _ < 8800; omega) (by decide), ?_⟩
    rw [z_nat (by omega)]
    have hR2 := hR1.ast (n := 2) rfl (upd (g 2) (1200 * w + (d.2 w).length) e.2.2.1)
    refine ⟨nl rfl, _, _, hR2.1, rfl, ?_⟩
    refine ⟨_, _, hR2.2.1 3 rfl, nl rfl, z_in (by show _ < 8800; omega) (by decide), ?_⟩
    rw [z_nat (by omega)]
    have hR3 := hR2.ast (n := 3) rfl (upd (g 3) (1200 * w + (d.2 w).length) a)
    refine ⟨nl rfl, _, _, hR3.1, rfl, ?_⟩
    refine ⟨_, _, hR3.2.1 4 rfl, nl rfl, z_in (by show _ < 8800; omega) (by decide), ?_⟩
    rw [z_nat (by omega)]
    have hR4 := hR3.ast (n := 4) rfl (upd (g 4) (1200 * w + (d.2 w).length) b)
    refine ⟨nl rfl, _, _, hR4.1, rfl, ?_⟩
    refine ⟨_, _, hR4.2.1 5 rfl, nl rfl, z_in (by show _ < 8800; omega) (by decide), ?_⟩
    rw [z_nat (by omega)]
    have hR5 := hR4.ast (n := 5) rfl (upd (g 5) (1200 * w + (d.2 w).length) c)
    refine ⟨nl rfl, _, _, hR5.1, rfl, ?_⟩
    refine ⟨_, _, hR5.2.1 6 rfl, z_in (by exact hw) (by decide), ?_⟩
    rw [z_nat (by omega)]
    refine ⟨_, _, hR5.2.1 6 rfl, nl rfl, z_in (by exact hw) (by decide), ?_⟩
    rw [z_nat (by omega)]
    have hR6 := hR5.ast (n := 6) rfl (upd (g 6) w (g 6 w + 1))
    rw [j1] at hR6
    have hD6 := hD.rec hw hc he
    have k := tail f (some (xv_i (Int32.ofNat (1200 * w + (d.2 w).length)))) (dapp d w e) _ _ hR6 hD6 (fun k hk => g_rec_ne hk) (((((((fm.rf.up (by decide) (by decide)).up (by decide) (by decide)).up (by decide) (by decide)).up (by decide) (by decide)).up (by decide) (by decide)).up (by decide) (by decide)).up (by decide) (by decide)) (by rw [x_up_k (by decide), x_up_k (by decide), x_up_k (by decide), x_up_k (by decide), x_up_k (by decide), x_up_k (by decide), x_up_k (by decide)]) (fun q => ⟨hf0 q, rfl⟩) (fun q => ⟨(hf1 q).1, (if_pos (hf1 q).2).symm⟩) hff
    rw [← j1] at k
    exact x_go.back mn_R_record k
  refine x_go.run mn_R_record 40 ?_
  refine ⟨nl rfl, _, _, hR.1, rfl, ?_⟩
  refine ⟨_, _, hR.2.1 8 rfl, z_in (by exact hw) (by decide), ?_⟩
  rw [z_nat (by omega)]
  rw [e8]
  refine ⟨fun c1 => ?_, fun c1 => ?_⟩
  · have hf : ¬ dfails d w := fun q => Int32.not_lt.mpr q.1 c1
    exact ⟨fun _ => x_go.back mn_R_record (write 0 (fun _ => hf) (fun q => absurd q (by decide)) (Or.inl rfl)), fun q => (q rfl).elim⟩
  · refine ⟨nl rfl, _, _, hR.1, rfl, ?_⟩
    refine ⟨_, _, hR.2.1 7 rfl, z_in (by exact hw) (by decide), ?_⟩
    rw [z_nat (by omega)]
    rw [e7]
    refine ⟨fun c2 => ?_, fun c2 => ?_⟩
    · have hf : ¬ dfails d w := fun q => c2 q.2
      exact ⟨fun _ => x_go.back mn_R_record (write 0 (fun _ => hf) (fun q => absurd q (by decide)) (Or.inl rfl)), fun q => (q rfl).elim⟩
    · have hf : dfails d w := ⟨Int32.not_lt.mp c1, Classical.not_not.mp c2⟩
      refine ⟨fun q => absurd q (by decide), fun _ => ?_⟩
      refine ⟨nl rfl, _, _, hR.1, rfl, ?_⟩
      refine ⟨_, _, hR.2.1 8 rfl, z_in (by exact hw) (by decide), ?_⟩
      rw [z_nat (by omega)]
      rw [e8]
      refine ⟨fun c3 => ?_, fun c3 => ?_⟩
      · exact x_go.back mn_R_record (tail 1 none d g S hR hD (fun _ _ => rfl) fm.rf rfl (fun q => absurd q (by decide)) (fun _ => ⟨hf, (if_neg c3).symm⟩) (Or.inr rfl))
      · exact x_go.back mn_R_record (write 1 (fun q => absurd q (by decide)) (fun _ => ⟨hf, Classical.not_not.mp c3⟩) (Or.inr rfl))

/-- a MESSAGE more -/
def g_msg (g : Nat → Nat → Int32) (n : Nat) (e : R6) : Nat → Nat → Int32 :=
  gs (gs (gs (gs (gs (gs (gs g 19 (upd (g 19) n e.1)) 20 (upd (g 20) n e.2.2.2.1)) 21 (upd (g 21) n e.2.2.2.2.1)) 22 (upd (g 22) n e.2.2.1)) 23 (upd (g 23) n e.2.2.2.2.2)) 24 (upd (g 24) n e.2.1)) 25 (upd (g 25) 0 (g 25 0 + 1))
theorem g_msg_ne {g : Nat → Nat → Int32} {n : Nat} {e : R6} {k : Nat} (h : k < 19 ∨ 26 ≤ k) : g_msg g n e k = g k := by
  unfold g_msg
  rw [gs_ne (by omega), gs_ne (by omega), gs_ne (by omega), gs_ne (by omega), gs_ne (by omega), gs_ne (by omega), gs_ne (by omega)]
theorem MD.msg {d : DS} {g : Nat → Nat → Int32} (h : MD d g) {e : R6} (hc : (d.2 5).length < 3000) : MD (dapp d 5 e) (g_msg g (d.2 5).length e) := by
  obtain ⟨h1, h2, h3, h4⟩ := h
  refine ⟨fun k hk => ?_, ?_, fun w' hw' => ?_, ?_⟩
  · rw [g_msg_ne (by simp [dtag] at hk; omega)]
    exact h1 k hk
  · rw [g_msg_ne (by omega)]
    exact h2
  · show JM _ w' (if w' = 5 then d.2 w' ++ [e] else d.2 w')
    rw [if_neg (by omega)]
    exact (h3 w' hw').keep fun k hk => g_msg_ne (by omega)
  · obtain ⟨j1, j2, j3⟩ := h4
    show MM _ (d.2 5 ++ [e])
    refine ⟨?_, by rw [List.length_append]; exact hc, fun i hi => ?_⟩
    · show upd (g 25) 0 (g 25 0 + 1) 0 = _
      rw [upd_self, j1, z_suc, List.length_append]
      rfl
    · show upd (g 19) _ _ i = _ ∧ upd (g 24) _ _ i = _ ∧ upd (g 22) _ _ i = _ ∧ upd (g 20) _ _ i = _ ∧ upd (g 21) _ _ i = _ ∧ upd (g 23) _ _ i = _
      by_cases ei : i = (d.2 5).length
      · subst ei
        rw [upd_self, upd_self, upd_self, upd_self, upd_self, upd_self, List.getElem_concat_length rfl]
        exact ⟨rfl, rfl, rfl, rfl, rfl, rfl⟩
      · have hi' : i < (d.2 5).length := by
          rw [List.length_append] at hi
          change i < _ + 1 at hi
          omega
        rw [upd_ne (by omega), upd_ne (by omega), upd_ne (by omega), upd_ne (by omega), upd_ne (by omega), upd_ne (by omega), List.getElem_append_left hi']
        exact j3 i hi'
theorem r_sent {d : DS} {g : Nat → Nat → Int32} {S : XH} {P : XP} {e : R6} (hR : RM g S) (hD : MD d g)
    (h : ∀ g' S', RM g' S' → MD (dsent d e) g' → (∀ k, k < 19 ∨ 26 ≤ k → g' k = g k) → fm S S' → S' 19 = S 19 → P (.inl none) S') :
    Y_R_sent 0 0 [xv_r 15 0, xv_i e.1, xv_i e.2.2.2.1, xv_i e.2.2.2.2.1, xv_i e.2.2.1, xv_i e.2.2.2.2.2, xv_i e.2.1] S P := by
  have j1 := hD.2.2.2.1
  have j2 := hD.2.2.2.2.1
  have hq : (Int32.ofNat (d.2 5).length = 3000) ↔ (d.2 5).length = 3000 := z_eq (b := 3000) (by omega) (by decide)
  refine x_go.run mn_R_sent 100 ?_
  refine ⟨nl rfl, _, _, hR.1, rfl, ?_⟩
  refine ⟨fun c => ?_, fun c => ?_⟩
  · have hne : (d.2 5).length ≠ 3000 := fun q => c (by show g 25 0 = 3000; rw [j1]; exact hq.mpr q)
    have hlt : (d.2 5).length < 3000 := by omega
    refine ⟨nl rfl, _, _, hR.1, rfl, ?_⟩
    refine ⟨nl rfl, _, _, hR.1, rfl, ?_⟩
    refine ⟨_, _, hR.2.1 19 rfl, nl rfl, (by show vp_in (g 25 0) 3000; rw [j1]; exact z_in hlt (by decide)), ?_⟩
    have hR19 := hR.ast (n := 19) rfl (upd (g 19) (d.2 5).length e.1)
    rw [show (d.2 5).length = (g 25 0).toNatClampNeg by rw [j1, z_nat (by omega)]] at hR19
    refine ⟨nl rfl, _, _, hR19.1, rfl, ?_⟩
    refine ⟨nl rfl, _, _, hR19.1, rfl, ?_⟩
    refine ⟨_, _, hR19.2.1 20 rfl, nl rfl, (by show vp_in (g 25 0) 3000; rw [j1]; exact z_in hlt (by decide)), ?_⟩
    have hR20 := hR19.ast (n := 20) rfl (upd (g 20) (d.2 5).length e.2.2.2.1)
    rw [show (d.2 5).length = (g 25 0).toNatClampNeg by rw [j1, z_nat (by omega)]] at hR20
    refine ⟨nl rfl, _, _, hR20.1, rfl, ?_⟩
    refine ⟨nl rfl, _, _, hR20.1, rfl, ?_⟩
    refine ⟨_, _, hR20.2.1 21 rfl, nl rfl, (by show vp_in (g 25 0) 3000; rw [j1]; exact z_in hlt (by decide)), ?_⟩
    have hR21 := hR20.ast (n := 21) rfl (upd (g 21) (d.2 5).length e.2.2.2.2.1)
    rw [show (d.2 5).length = (g 25 0).toNatClampNeg by rw [j1, z_nat (by omega)]] at hR21
    refine ⟨nl rfl, _, _, hR21.1, rfl, ?_⟩
    refine ⟨nl rfl, _, _, hR21.1, rfl, ?_⟩
    refine ⟨_, _, hR21.2.1 22 rfl, nl rfl, (by show vp_in (g 25 0) 3000; rw [j1]; exact z_in hlt (by decide)), ?_⟩
    have hR22 := hR21.ast (n := 22) rfl (upd (g 22) (d.2 5).length e.2.2.1)
    rw [show (d.2 5).length = (g 25 0).toNatClampNeg by rw [j1, z_nat (by omega)]] at hR22
    refine ⟨nl rfl, _, _, hR22.1, rfl, ?_⟩
    refine ⟨nl rfl, _, _, hR22.1, rfl, ?_⟩
    refine ⟨_, _, hR22.2.1 23 rfl, nl rfl, (by show vp_in (g 25 0) 3000; rw [j1]; exact z_in hlt (by decide)), ?_⟩
    have hR23 := hR22.ast (n := 23) rfl (upd (g 23) (d.2 5).length e.2.2.2.2.2)
    rw [show (d.2 5).length = (g 25 0).toNatClampNeg by rw [j1, z_nat (by omega)]] at hR23
    refine ⟨nl rfl, _, _, hR23.1, rfl, ?_⟩
    refine ⟨nl rfl, _, _, hR23.1, rfl, ?_⟩
    refine ⟨_, _, hR23.2.1 24 rfl, nl rfl, (by show vp_in (g 25 0) 3000; rw [j1]; exact z_in hlt (by decide)), ?_⟩
    have hR24 := hR23.ast (n := 24) rfl (upd (g 24) (d.2 5).length e.2.1)
    rw [show (d.2 5).length = (g 25 0).toNatClampNeg by rw [j1, z_nat (by omega)]] at hR24
    refine ⟨nl rfl, _, _, hR24.1, rfl, ?_⟩
    refine ⟨trivial, _, hR24.1, nl rfl, nl rfl, ?_⟩
    have hR25 := hR24.put (n := 25) (g 25 0 + 1) (Or.inr (Or.inl rfl))
    have hD25 := hD.msg (e := e) hlt
    rw [show (d.2 5).length = (g 25 0).toNatClampNeg by rw [j1, z_nat (by omega)]] at hD25
    refine h _ _ hR25 ?_ (fun k hk => g_msg_ne hk) (((((((fm.rf.up (by decide) (by decide)).up (by decide) (by decide)).up (by decide) (by decide)).up (by decide) (by decide)).up (by decide) (by decide)).up (by decide) (by decide)).up (by decide) (by decide)) (by rw [x_up_k (by decide), x_up_k (by decide), x_up_k (by decide), x_up_k (by decide), x_up_k (by decide), x_up_k (by decide), x_up_k (by decide)])
    unfold dsent
    rw [if_neg hne]
    exact hD25
  · have he : (d.2 5).length = 3000 := by
      have c := Classical.not_not.mp c
      change g 25 0 = 3000 at c
      rw [j1] at c
      exact hq.mp c
    exact h g S hR (by unfold dsent; rw [if_pos he]; exact hD) (fun _ _ => rfl) fm.rf rfl
