section CT
variable {q : Nat → Nat → Int32} {s cp : Nat → Nat} {ls : Nat → List R6} {S : XH} {P : XP} {d : DS} {e : R6} {p : Nat} {wr : Int32}
def ustep (m t : Int32) (v : Int32) (e : R6) : Int32 := if e.2.1 = m ∧ e.2.2.1 ≤ t then v - chgB e else v
theorem tot_u {l : List R6} (h : Bok l) (m t : Int32) : totOf l m t = l.foldl (ustep m t) 0 := h.tot m t
theorem c_totalOf {m t : Int32} (hK : KS d S) (hb : Bok (d.2 4)) (hP : P (.inl (some (xv_i (totOf (d.2 4) m t)))) S) : Y_B_totalOf 0 0 [xv_r 2 0, xv_i m, xv_i t] S P := by
  obtain ⟨q, s, cp, ls, hR, hA, hc, hF⟩ := id hK
  have hls : ls 4 = d.2 4 := hA.1.1 4 (by decide)
  have hlen := (hR.2.2.2.2.2.2.2.2 4 (by decide)).len
  rw [hls] at hlen
  rw [tot_u hb] at hP
  have loop : ∀ r i (j5 : Option XV), (d.2 4).length - i = r → i ≤ (d.2 4).length → x_go b_B_totalOf P 5 [some (xv_r 2 0), some (xv_i m), some (xv_i t), some (xv_i (((d.2 4).take i).foldl (ustep m t) 0)), some (xv_i (Int32.ofNat i)), j5] [] S 0 0 := by
    intro r
    induction r with
    | zero =>
      intro i j5 hr hi
      have ei : i = (d.2 4).length := by omega
      subst ei
      rw [List.take_length]
      refine x_go.run mn_B_totalOf 12 ?_
      refine ⟨nl rfl, _, _, hR.2.2.1, rfl, ?_⟩
      refine ⟨nl rfl, ⟨_, hR.2.2.2.2.1 4 (by decide)⟩, rfl, nl rfl, 0, 0, Nat.zero_le _, Nat.zero_le _, c_jsize hR (by decide) ?_⟩
      rw [hls]
      exact ⟨fun _ => hP, fun c => (c ((z_le (by omega) (by omega)).mpr (Nat.le_refl _))).elim⟩
    | succ r ih =>
      intro i j5 hr hi
      have hi' : i < (d.2 4).length := by omega
      refine x_go.run mn_B_totalOf 40 ?_
      refine ⟨nl rfl, _, _, hR.2.2.1, rfl, ?_⟩
      refine ⟨nl rfl, ⟨_, hR.2.2.2.2.1 4 (by decide)⟩, rfl, nl rfl, 0, 0, Nat.zero_le _, Nat.zero_le _, c_jsize hR (by decide) ?_⟩
      rw [hls]
      refine ⟨fun c => ?_, fun _ => ?_⟩
      · have := (z_le (by omega) (by omega)).mp c
        omega
      refine ⟨nl rfl, _, _, hR.2.2.1, rfl, ?_⟩
      refine ⟨nl rfl, ⟨_, hR.2.2.2.2.1 4 (by decide)⟩, rfl, nl rfl, 0, 0, Nat.zero_le _, Nat.zero_le _, c_entry hR (by decide) (by rw [hls]; exact hi') fun p hp => ?_⟩
      have hp : S 11 p = some (.inl (6, eR (d.2 4)[i])) := by
        rw [hp]
        simp only [hls]
      have nxt : ∀ v : Int32, v = ((d.2 4).take (i + 1)).foldl (ustep m t) 0 → x_go b_B_totalOf P 54 [some (xv_r 2 0), some (xv_i m), some (xv_i t), some (xv_i v), some (xv_i (Int32.ofNat i)), some (xv_r 11 p)] [] S 0 0 := fun v hv => by
        have kk := ih (i + 1) (some (xv_r 11 p)) (by omega) (by omega)
        rw [← hv, ← z_suc] at kk
        exact x_go.run mn_B_totalOf 2 kk
      have us : ∀ v, ustep m t v (d.2 4)[i] = if (d.2 4)[i].2.1 = m ∧ (d.2 4)[i].2.2.1 ≤ t then v - chgB (d.2 4)[i] else v := fun _ => rfl
      rw [fold_suc hi', us] at nxt
      refine ⟨nl rfl, ⟨_, hp⟩, rfl, nl rfl, 0, 0, Nat.zero_le _, Nat.zero_le _, c_emach hp ?_⟩
      refine ⟨fun c => x_go.back mn_B_totalOf (nxt _ ?_), fun c => ?_⟩
      · rw [if_neg (fun z => c z.1)]
      refine ⟨nl rfl, ⟨_, hp⟩, rfl, nl rfl, 0, 0, Nat.zero_le _, Nat.zero_le _, c_etrace hp ?_⟩
      refine ⟨fun c' => x_go.back mn_B_totalOf (nxt _ ?_), fun c' => ?_⟩
      · rw [if_neg (fun z => Int32.not_lt.mpr z.2 c')]
      refine ⟨nl rfl, rfl, nl rfl, 0, 0, Nat.zero_le _, Nat.zero_le _, c_changeBy hp ?_⟩
      refine x_go.back mn_B_totalOf (x_go.run mn_B_totalOf 2 (nxt _ ?_))
      rw [if_pos ⟨Classical.not_not.mp c, Int32.not_lt.mp c'⟩]
  refine x_go.run mn_B_totalOf 4 ?_
  exact loop _ 0 none rfl (Nat.zero_le _)
theorem KW.inc (h : KW d wr S) {q0 : Int32} (hb : S 2 0 = some (.inl (2, [xv_r 1 0, xv_r 4 4, xv_r 8 1, xv_i q0, xv_i wr]))) (v : Int32) : KW d v (x_up S 2 0 (.inl (2, [xv_r 1 0, xv_r 4 4, xv_r 8 1, xv_i q0, xv_i v]))) := by
  obtain ⟨q, s, cp, ls, hR, hB, hM, hK, hw, hc, hF⟩ := h
  have r := hR.putB (i := 1) (by decide) v
  have e0 : q 0 0 = q0 := by
    have := hR.2.2.1.symm.trans hb
    unfold oB at this
    simp at this
    exact this.1
  have eo : (oB q).set (3 + 1) (xv_i v) = [xv_r 1 0, xv_r 4 4, xv_r 8 1, xv_i q0, xv_i v] := by
    unfold oB
    rw [e0]
    rfl
  rw [eo] at r
  exact ⟨_, s, cp, ls, r, hB.own (fun t a _ _ _ => gs_ne a) (fun _ _ => rfl), fun m hm => (hM m hm).keep rfl rfl (by rw [gs_ne (by decide)]) (by rw [gs_ne (by decide)]) rfl rfl, hK.keep rfl (by rw [gs_self, upd_ne (by decide)]) (by rw [gs_ne (by decide)]), gs_at, hc, hF.up⟩
theorem cwrong_1 {x : R6} (h : x.1 = 510) (h' : x.2.2.2.2.2 ≠ 0) (hl : (d.2 5).length < 3000) : cwrong ((dsent d x).2 5) = cwrong (d.2 5) + 1 := by
  unfold dsent
  rw [if_neg (by omega), dapp_self]
  unfold cwrong
  rw [List.filter_append, List.filter_cons_of_pos (by simp [h, h']), List.filter_nil, List.length_append, z_suc]
  rfl
theorem c_ansTot (hK : KS d S) (hro : ro S) (hb : Bok (d.2 4)) (h5 : (d.2 5).length ≤ 3000) (hp : S 10 p = some (.inl (7, gR e))) (ht : e.1 ≠ 200) (ht' : e.1 ≠ 420) (h0 : kN (dbank d e).1 S (fun S' => P (.inl none) S')) : Y_B_answerTotals 5 6167 [xv_r 2 0, xv_r 10 p] S P := by
  obtain ⟨q0, q1, hbo⟩ := hK.bobj
  unfold dbank at h0
  rw [if_neg ht, if_neg ht'] at h0
  have go : ∀ f : Int32, (f = 0 → totOf (d.2 4) e.2.1 e.2.2.1 ≠ e.2.2.2.2.1) → (f = 1 → totOf (d.2 4) e.2.1 e.2.2.1 = e.2.2.2.2.1) → (f = 0 ∨ f = 1) → x_go b_B_answerTotals P 24 [some (xv_r 2 0), some (xv_r 10 p), none, none] [xv_i f] S 5 6167 := by
    intro f k0 k1 kf
    have rep : ∀ ans : Int32, ans = (if totOf (d.2 4) e.2.1 e.2.2.1 = e.2.2.2.2.1 then 0 else 4) → x_go b_B_answerTotals P 39 [some (xv_r 2 0), some (xv_r 10 p), some (xv_i f), none] [xv_i ans, xv_r 10 p, xv_r 50 5, xv_r 2 0] S 5 6167 := by
      intro ans ha
      refine x_go.run mn_B_answerTotals 15 ?_
      refine ⟨nl rfl, ⟨_, hbo⟩, rfl, nl rfl, 2, 4505, nl rfl, nl rfl, c_reply (ty := 510) (e := e) (ans := ans) hK.kw hp h5 hro.2.2.2.2.2 fun S1 k f1 => ?_⟩
      rw [← ha] at h0
      by_cases hl : (d.2 5).length < 3000
      · rw [if_pos hl]
        refine ⟨fun c => absurd c (by decide), fun _ => ?_⟩
        refine ⟨fun c => ?_, fun c => ?_⟩
        · have hs := k1 (kf.resolve_left c)
          rw [if_pos hs] at ha
          exact h0 S1 (k.ks (cwrong_x (Or.inr ha)).symm) f1
        · have hs := k0 (Classical.not_not.mp c)
          rw [if_neg hs] at ha
          obtain ⟨q0', hbo'⟩ := k.bobj
          refine ⟨nl rfl, _, _, hbo', rfl, ?_⟩
          refine ⟨trivial, _, hbo', nl rfl, nl rfl, ?_⟩
          refine h0 _ ((k.inc hbo' (cwrong (d.2 5) + 1)).ks ?_) (f1.tr (fc.rf.up (Or.inl (by simp))))
          exact (cwrong_1 rfl (by rw [ha]; show ¬ (4 : Int32) = 0; decide) hl).symm
      · rw [if_neg hl]
        refine ⟨fun _ => ?_, fun c => (c rfl).elim⟩
        refine h0 S1 (k.ks ?_) f1
        unfold dsent
        rw [if_pos (by omega)]
    refine x_go.run mn_B_answerTotals 8 ?_
    refine ⟨fun c => ?_, fun c => ?_⟩
    · exact x_go.back mn_B_answerTotals (x_go.run mn_B_answerTotals 1 (rep 4 (by rw [if_neg (k0 c)])))
    · exact x_go.back mn_B_answerTotals (x_go.run mn_B_answerTotals 2 (rep 0 (by rw [if_pos (k1 (kf.resolve_left c))])))
  refine x_go.run mn_B_answerTotals 10 ?_
  refine ⟨nl rfl, ⟨_, hp⟩, rfl, nl rfl, 0, 0, Nat.zero_le _, Nat.zero_le _, c_gmach hp ?_⟩
  refine ⟨nl rfl, ⟨_, hp⟩, rfl, nl rfl, 0, 0, Nat.zero_le _, Nat.zero_le _, c_gtrace hp ?_⟩
  refine ⟨nl rfl, ⟨_, hbo⟩, rfl, nl rfl, 0, 0, Nat.zero_le _, Nat.zero_le _, c_totalOf hK hb ?_⟩
  refine ⟨nl rfl, ⟨_, hp⟩, rfl, nl rfl, 0, 0, Nat.zero_le _, Nat.zero_le _, c_gamt hp ?_⟩
  refine ⟨fun c => ?_, fun c => ?_⟩
  · exact x_go.back mn_B_answerTotals (x_go.run mn_B_answerTotals 1 (go 0 (fun _ => c) (fun z => by cases z) (Or.inl rfl)))
  · exact x_go.back mn_B_answerTotals (x_go.run mn_B_answerTotals 2 (go 1 (fun z => by cases z) (fun _ => Classical.not_not.mp c) (Or.inr rfl)))
theorem ty_eq {x y : Int32} {k : Nat} (hx : x = 200 ∨ x = 420 ∨ x = 500) (hk : (k = 0 ∧ y = (200 : Int32)) ∨ (k = 2 ∧ y = 420)) : (some (50, tyN x) = some (50, k)) ↔ x = y := by
  rcases hx with rfl | rfl | rfl <;> rcases hk with ⟨rfl, rfl⟩ | ⟨rfl, rfl⟩ <;> decide
theorem c_brecv {a : Nat} (hK : KS d S) (hro : ro S) (hb : Bok (d.2 4)) (hl4 : (d.2 4).length ≤ 1100) (h5 : (d.2 5).length ≤ 3000) (hp : S 10 p = some (.inl (7, gR e))) (ht : e.1 = 200 ∨ e.1 = 420 ∨ e.1 = 500) (ha : e.2.2.2.1 = Int32.ofNat a) (ha' : a < 200)
    (hoff : d.1 9 0 = 0 → kN d S (fun S' => P (.inl none) S')) (h1 : d.1 9 0 ≠ 0 → (dbank d e).2 = true → kT (dbank d e).1 S 14 P) (h0 : d.1 9 0 ≠ 0 → (dbank d e).2 = false → kN (dbank d e).1 S (fun S' => P (.inl none) S')) : Y_B_receive 5 6167 [xv_r 2 0, xv_r 10 p] S P := by
  obtain ⟨q, s, cp, ls, hR, hA, hc, hF⟩ := id hK
  have hbo := hR.2.2.1
  refine x_go.run mn_B_receive 40 ?_
  refine ⟨nl rfl, _, _, hbo, rfl, ?_⟩
  refine ⟨nl rfl, ⟨_, hR.2.2.2.2.1 4 (by decide)⟩, rfl, nl rfl, 0, 0, Nat.zero_le _, Nat.zero_le _, c_ison hR (by decide) (by rw [hA.1.2.2.1]; exact on01) ?_⟩
  rw [hA.1.2.2.1]
  refine ⟨fun z => ?_, fun z => ?_⟩
  rotate_left
  · exact hoff (on_iff.mp (Classical.not_not.mp z)) S hK fc.rf
  have on : d.1 9 0 ≠ 0 := fun y => z (on_iff.mpr y)
  have h1 := h1 on
  have h0 := h0 on
  refine ⟨nl rfl, ⟨_, hp⟩, rfl, nl rfl, 0, 0, Nat.zero_le _, Nat.zero_le _, c_gtype hp ?_⟩
  refine ⟨Or.inr (Or.inr ⟨rfl, Or.inr (Or.inl rfl)⟩), fun c => ?_, fun c => ?_⟩
  · have n2 : e.1 ≠ 200 := fun y => c ((ty_eq ht (Or.inl ⟨rfl, rfl⟩)).mpr y)
    refine ⟨nl rfl, ⟨_, hp⟩, rfl, nl rfl, 0, 0, Nat.zero_le _, Nat.zero_le _, c_gtype hp ?_⟩
    refine ⟨Or.inr (Or.inr ⟨rfl, Or.inr (Or.inl rfl)⟩), fun c => ?_, fun c => ?_⟩
    · have n4 : e.1 ≠ 420 := fun y => c ((ty_eq ht (Or.inr ⟨rfl, rfl⟩)).mpr y)
      have hf : (dbank d e).2 = false := by
        unfold dbank
        rw [if_neg n2, if_neg n4]
      exact ⟨nl rfl, ⟨_, hbo⟩, rfl, nl rfl, 5, 6167, nl rfl, nl rfl, c_ansTot hK hro hb h5 hp n2 n4 (h0 hf)⟩
    · have e4 : e.1 = 420 := (ty_eq ht (Or.inr ⟨rfl, rfl⟩)).mp (Classical.not_not.mp c)
      exact ⟨nl rfl, ⟨_, hbo⟩, rfl, nl rfl, 5, 6167, nl rfl, nl rfl, c_ansRev hK hro hb hl4 h5 hp e4 h1 h0⟩
  · have e2 : e.1 = 200 := (ty_eq ht (Or.inl ⟨rfl, rfl⟩)).mp (Classical.not_not.mp c)
    exact ⟨nl rfl, ⟨_, hbo⟩, rfl, nl rfl, 5, 6167, nl rfl, nl rfl, c_ansReq hK hro hb hl4 h5 hp e2 ha ha' h1 h0⟩
end CT
