section CY
variable {S : XH} {P : XP} {d : DS} {m st : Nat} {tr am : Int32} {vs : List R6}
theorem KM.lo (h : KM d m tr am vs st S) (hm : m < 4) : ∃ cap, LO S (6 + m) cap vs ∧ cap ≤ 800 := by
  obtain ⟨q, s, cp, ls, hR, hX, hc, hF, e3, e4, e6, es⟩ := h
  have := hR.2.2.2.2.2.2.2.2 (6 + m) (by omega)
  rw [e6] at this
  exact ⟨_, this, hc.2.1 _ (by omega) (by omega)⟩
/-- the VOIDS' list has changed -/
theorem KM.lst (h : KM d m tr am vs st S) (hm : m < 4) {S' : XH} {cap : Nat} {vs' : List R6} (hc : cap ≤ 800) (hL : LO S' (6 + m) cap vs') (ha : laft (6 + m) S S') (hF : RF S') : KM d m tr am vs' st S' := by
  obtain ⟨q, s, cp, ls, hR, hX, hcp, -, e3, e4, e6, es⟩ := h
  have r := hR.lst (by omega) hL ha
  refine ⟨q, s, _, _, r, ⟨hX.1.own (fun _ _ _ _ _ => rfl) (fun j hj => if_neg (by omega)), fun m' hm' hne => (hX.2.1 m' hm' hne).keep rfl rfl rfl rfl rfl (if_neg (by omega)), hX.2.2.1, hX.2.2.2.1, hX.2.2.2.2⟩, ⟨fun j hj => ?_, fun j hj hj' => ?_, ?_⟩, hF, e3, e4, if_pos rfl, es⟩
  · show (if j = 6 + m then _ else cp j) ≤ 1800
    rw [if_neg (by omega)]
    exact hcp.1 j hj
  · show (if j = 6 + m then cap else cp j) ≤ 800
    by_cases z : j = 6 + m
    · rw [if_pos z]
      exact hc
    · rw [if_neg z]
      exact hcp.2.1 j hj hj'
  · show (if 5 = 6 + m then _ else cp 5) = _
    rw [if_neg (by omega)]
    exact hcp.2.2
theorem lk6 (hm : m < 4) : lk (6 + m) = 11 ∧ lcl (6 + m) = 6 ∧ ∀ e, lR (6 + m) e = eR e := ⟨if_neg (by omega), if_neg (by omega), fun e => if_neg (by omega)⟩
theorem c_isVoid {t : Int32} (h : KM d m tr am vs st S) (hm : m < 4) (h1 : (∃ x ∈ vs, x.2.2.1 = t) → P (.inl (some (xv_i 1))) S) (h0 : ¬ (∃ x ∈ vs, x.2.2.1 = t) → P (.inl (some (xv_i 0))) S) : Y_M_isVoid 0 0 [xv_r 3 m, xv_i t] S P := by
  obtain ⟨cap, hl, -⟩ := h.lo hm
  have hlen := hl.len
  obtain ⟨fv, hfv⟩ := h.vobj hm
  obtain ⟨k1, k2, k3⟩ := lk6 hm
  have loop : ∀ r i, vs.length - i = r → i ≤ vs.length → (∀ q (hq : q < vs.length), q < i → vs[q].2.2.1 ≠ t) → x_go b_M_isVoid P 2 [some (xv_r 3 m), some (xv_i t), some (xv_i (Int32.ofNat i))] [] S 0 0 := by
    intro r
    induction r with
    | zero =>
      intro i hr hi hno
      refine x_go.run mn_M_isVoid 10 ?_
      refine ⟨nl rfl, _, _, (h.obj hm), rfl, ?_⟩
      refine ⟨nl rfl, ⟨_, hfv⟩, rfl, nl rfl, 0, 0, Nat.zero_le _, Nat.zero_le _, c_size hl ?_⟩
      refine ⟨fun _ => ⟨Or.inl rfl, h0 ?_⟩, fun c => (c ((z_le (by omega) (by omega)).mpr (by omega))).elim⟩
      rintro ⟨x, hx, e⟩
      obtain ⟨q, hq, rfl⟩ := List.mem_iff_getElem.mp hx
      exact hno q hq (by omega) e
    | succ r ih =>
      intro i hr hi hno
      have hi' : i < vs.length := by omega
      refine x_go.run mn_M_isVoid 20 ?_
      refine ⟨nl rfl, _, _, (h.obj hm), rfl, ?_⟩
      refine ⟨nl rfl, ⟨_, hfv⟩, rfl, nl rfl, 0, 0, Nat.zero_le _, Nat.zero_le _, c_size hl ?_⟩
      refine ⟨fun c => ?_, fun _ => ?_⟩
      · have := (z_le (by omega) (by omega)).mp c
        omega
      refine ⟨nl rfl, _, _, (h.obj hm), rfl, ?_⟩
      refine ⟨nl rfl, ⟨_, hfv⟩, rfl, nl rfl, 0, 0, Nat.zero_le _, Nat.zero_le _, c_get hl (by omega) hi' fun p hp => ?_⟩
      rw [k1] at hp ⊢
      rw [k2, k3] at hp
      refine ⟨nl rfl, ⟨_, hp⟩, ?_⟩
      refine ⟨nl rfl, ⟨_, hp⟩, rfl, nl rfl, 0, 0, Nat.zero_le _, Nat.zero_le _, c_etrace hp ?_⟩
      refine ⟨fun c => ?_, fun c => ⟨Or.inr rfl, h1 ⟨_, List.getElem_mem hi', Classical.not_not.mp c⟩⟩⟩
      have kk := ih (i + 1) (by omega) (by omega) fun q hq hq' => by
        rcases Nat.lt_succ_iff_lt_or_eq.mp hq' with y | rfl
        · exact hno q hq y
        · exact c
      rw [← z_suc] at kk
      exact x_go.back mn_M_isVoid (x_go.run mn_M_isVoid 2 kk)
  refine x_go.run mn_M_isVoid 2 ?_
  exact loop _ 0 rfl (Nat.zero_le _) fun q hq hq' => by omega
def nott (t : Int32) (x : R6) : Bool := !(x.2.2.1 == t)
theorem c_forgetC {t : Int32} {cap : Nat} (h : KM d m tr am vs st S) (hm : m < 4) (hl : LO S (6 + m) cap vs) (hcap : cap ≤ 800) (hP : ∀ S', KM d m tr am (vs.filter (nott t)) st S' → LO S' (6 + m) cap (vs.filter (nott t)) → fc S S' → P (.inl none) S') : Y_M_forgetVoid 0 0 [xv_r 3 m, xv_i t] S P := by
  have hlen := hl.len
  obtain ⟨fv, hfv⟩ := h.vobj hm
  obtain ⟨k1, k2, k3⟩ := lk6 hm
  have loop : ∀ i (S1 : XH), i ≤ vs.length → KM d m tr am (vs.take i ++ (vs.drop i).filter (nott t)) st S1 → LO S1 (6 + m) cap (vs.take i ++ (vs.drop i).filter (nott t)) → fc S S1 →
      x_go b_M_forgetVoid P 10 [some (xv_r 3 m), some (xv_i t), some (xv_i (Int32.ofNat i - 1))] [] S1 0 0 := by
    intro i
    induction i with
    | zero =>
      intro S1 hi km hl1 f1
      rw [List.take_zero, List.drop_zero, List.nil_append] at km hl1
      refine x_go.run mn_M_forgetVoid 4 ?_
      exact ⟨fun _ => hP S1 km hl1 f1, fun c => (c z_m1).elim⟩
    | succ i ih =>
      intro S1 hi km hl1 f1
      rw [z_suc1]
      obtain ⟨fv1, hfv1⟩ := km.vobj hm
      have hi' : i < vs.length := by omega
      have el : i < (vs.take (i + 1) ++ (vs.drop (i + 1)).filter (nott t)).length := by
        rw [List.length_append, List.length_take]
        omega
      have eg : (vs.take (i + 1) ++ (vs.drop (i + 1)).filter (nott t))[i] = vs[i] := by
        rw [List.getElem_append_left (by rw [List.length_take]; omega), List.getElem_take]
      have ed : (vs.drop i).filter (nott t) = (if nott t vs[i] = true then [vs[i]] else []) ++ (vs.drop (i + 1)).filter (nott t) := by
        rw [List.drop_eq_getElem_cons hi', List.filter_cons]
        split <;> rfl
      refine x_go.run mn_M_forgetVoid 20 ?_
      refine ⟨fun c => (z_neg (by omega) c).elim, fun _ => ?_⟩
      refine ⟨nl rfl, _, _, (km.obj hm), rfl, ?_⟩
      refine ⟨nl rfl, ⟨_, hfv1⟩, rfl, nl rfl, 0, 0, Nat.zero_le _, Nat.zero_le _, c_get hl1 (by omega) el fun p hp => ?_⟩
      rw [k1] at hp ⊢
      rw [k2, k3, eg] at hp
      refine ⟨nl rfl, ⟨_, hp⟩, ?_⟩
      refine ⟨nl rfl, ⟨_, hp⟩, rfl, nl rfl, 0, 0, Nat.zero_le _, Nat.zero_le _, c_etrace hp ?_⟩
      refine ⟨fun c => ?_, fun c => ?_⟩
      · have c : ¬ vs[i].2.2.1 = t := c
        have hk : nott t vs[i] = true := by
          unfold nott
          simp [c]
        rw [if_pos hk] at ed
        have e2 : vs.take (i + 1) ++ (vs.drop (i + 1)).filter (nott t) = vs.take i ++ (vs.drop i).filter (nott t) := by
          rw [ed, List.take_succ_eq_append_getElem hi', List.append_assoc]
        rw [e2] at km hl1
        have kk := ih S1 (by omega) km hl1 f1
        rw [← z_dec] at kk
        exact x_go.back mn_M_forgetVoid (x_go.run mn_M_forgetVoid 2 kk)
      · have c : vs[i].2.2.1 = t := Classical.not_not.mp c
        have hk : ¬ nott t vs[i] = true := by
          unfold nott
          simp [c]
        rw [if_neg hk, List.nil_append] at ed
        refine ⟨nl rfl, _, _, (km.obj hm), rfl, ?_⟩
        refine ⟨nl rfl, ⟨_, hfv1⟩, rfl, nl rfl, 0, 0, Nat.zero_le _, Nat.zero_le _, c_remove hl1 (by omega) el km.rf fun S2 p2 b1 b2 b3 _ => ?_⟩
        have e2 : (vs.take (i + 1) ++ (vs.drop (i + 1)).filter (nott t)).eraseIdx i = vs.take i ++ (vs.drop i).filter (nott t) := by
          rw [ed, List.take_succ_eq_append_getElem hi', List.append_assoc, List.eraseIdx_append_of_length_le (by rw [List.length_take]; omega), List.length_take, Nat.min_eq_left (by omega), Nat.sub_self]
          rfl
        rw [e2] at b1
        have km2 := km.lst hm hcap b1 b2 b3
        have kk := ih S2 (by omega) km2 b1 (f1.tr (b2.fc (by omega)))
        rw [← z_dec] at kk
        exact x_go.back mn_M_forgetVoid (x_go.run mn_M_forgetVoid 3 kk)
  refine x_go.run mn_M_forgetVoid 6 ?_
  refine ⟨nl rfl, _, _, (h.obj hm), rfl, ?_⟩
  refine ⟨nl rfl, ⟨_, hfv⟩, rfl, nl rfl, 0, 0, Nat.zero_le _, Nat.zero_le _, c_size hl ?_⟩
  refine loop vs.length S (Nat.le_refl _) ?_ ?_ fc.rf
  · rw [List.take_length, List.drop_length]
    simpa using h
  · rw [List.take_length, List.drop_length]
    simpa using hl
theorem c_forget {t : Int32} (h : KM d m tr am vs st S) (hm : m < 4) (hP : ∀ S', KM d m tr am (vs.filter (nott t)) st S' → fc S S' → P (.inl none) S') : Y_M_forgetVoid 0 0 [xv_r 3 m, xv_i t] S P := by
  obtain ⟨cap, hl, hcap⟩ := h.lo hm
  exact c_forgetC h hm hl hcap fun S' a _ b => hP S' a b
end CY
