def swt (d : Nat) (x : Int) : List (Int × Nat) → Nat
  | [] => d
  | q :: r => if x = q.1 then q.2 else swt d x r
theorem x_swk_of {K : Nat → Prop} {d n : Nat} {x : Int} : ∀ {tab : List (Int × Nat)}, swt d x tab = n → K n → x_swk K d x tab
  | [], h, k => by
    rw [show d = n from h] at *
    exact k
  | q :: r, h, k => by
    unfold swt at h
    refine ⟨fun z => ?_, fun z => ?_⟩
    · rw [if_pos z] at h
      rw [h]
      exact k
    · rw [if_neg z] at h
      exact x_swk_of h k
section CJ
variable {q : Nat → Nat → Int32} {s cp : Nat → Nat} {ls : Nat → List R6} {S : XH} {P : XP} {d : DS}
theorem c_allBal (hR : RC q s cp ls S) (hA : CA d q s ls) (hc : capok d cp) (hF : RF S) (hb : Bok (d.2 4)) (h : kN d S (fun S' => P (.inl (some (xv_i ((List.range 200).foldl (cstep3 d) 0)))) S')) : Y_C_allBalances 0 0 [xv_r 0 0] S P := by
  have loop : ∀ n a (q1 : Nat → Nat → Int32) (S1 : XH), 200 - a = n → a ≤ 200 → RC q1 s cp ls S1 → CA d q1 s ls → RF S1 → fc S S1 →
      x_go b_C_allBalances P 4 [some (xv_r 0 0), some (xv_i ((List.range a).foldl (cstep3 d) 0)), some (xv_i (Int32.ofNat a))] [] S1 0 0 := by
    intro n
    induction n with
    | zero =>
      intro a q1 S1 hn ha r1 a1 f1 g1
      have e : a = 200 := by omega
      subst e
      refine x_go.run mn_C_allBalances 20 ?_
      exact ⟨fun _ => h S1 ⟨q1, s, cp, ls, r1, a1, hc, f1⟩ g1, fun c => (c (by decide)).elim⟩
    | succ n ih =>
      intro a q1 S1 hn ha r1 a1 f1 g1
      refine x_go.run mn_C_allBalances 20 ?_
      refine ⟨fun c => ?_, fun _ => ?_⟩
      · have := (z_le (a := 200) (by decide) (by omega)).mp c
        omega
      refine ⟨nl rfl, _, _, r1.1, rfl, ?_⟩
      refine ⟨nl rfl, ⟨_, r1.2.2.1⟩, rfl, nl rfl, 0, 0, Nat.zero_le _, Nat.zero_le _, c_balanceOf r1 a1 hc f1 hb (by omega) fun q' S' r' a' f' g' _ _ => ?_⟩
      have kk := ih (a + 1) q' S' (by omega) (by omega) r' a' f' (g1.tr g')
      rw [range_suc, ← z_suc] at kk
      exact x_go.back mn_C_allBalances (x_go.run mn_C_allBalances 4 kk)
  refine x_go.run mn_C_allBalances 4 ?_
  exact loop 200 0 q S rfl (by decide) hR hA hF fc.rf
/-- more, less or as much as at first -/
theorem off_iff {x : Int32} (h1 : -2000000 ≤ x.toInt) (h2 : x.toInt ≤ 3000000) : (0 < x - 500 ↔ 500 < x) ∧ (0 ≤ x - 500 ↔ 500 ≤ x) := by
  have e : (x - 500).toInt = x.toInt - 500 := z_isub (b := 500) rfl rfl (by omega) (by omega)
  rw [Int32.lt_iff_toInt_lt, Int32.lt_iff_toInt_lt, Int32.le_iff_toInt_le, Int32.le_iff_toInt_le, e]
  show ((0 : Int) < x.toInt - 500 ↔ 500 < x.toInt) ∧ ((0 : Int) ≤ x.toInt - 500 ↔ 500 ≤ x.toInt)
  omega
theorem off_small {n a : Nat} (hi : Iv n d) (hn : n ≤ 600) (ha : a < 200) : -2000000 ≤ (worthOf (d.2 4) (Int32.ofNat a) + d.1 18 a).toInt ∧ (worthOf (d.2 4) (Int32.ofNat a) + d.1 18 a).toInt ≤ 3000000 := by
  obtain ⟨t, t1, t2⟩ := hi.2 a ha
  have hl := hi.1.2.2.1
  obtain ⟨b1, b2⟩ := Bok.small hi.1.2.1 (by omega) (Int32.ofNat a)
  rw [← Bok.worth hi.1.2.1] at b1 b2
  rw [t2, z_iadd (a := (worthOf (d.2 4) (Int32.ofNat a)).toInt) rfl (z_toInt (by omega)) (by omega) (by omega)]
  omega
def cstepX (d : DS) (al : Bool) (n : Int32) (a : Nat) : Int32 := if al = true then cstep5 d n a else cstep4 d n a
theorem c_accOff {n : Nat} {al : Bool} (hR : RC q s cp ls S) (hA : CA d q s ls) (hc : capok d cp) (hF : RF S) (hi : Iv n d) (hn : n ≤ 600) (h : kN d S (fun S' => P (.inl (some (xv_i ((List.range 200).foldl (cstepX d al) 0)))) S')) : Y_C_accountsOff 0 0 [xv_r 0 0, xv_i (if al = true then 1 else 0)] S P := by
  have hb := hi.1.2.1
  have loop : ∀ r a (q1 : Nat → Nat → Int32) (S1 : XH) (j4 : Option XV), 200 - a = r → a ≤ 200 → RC q1 s cp ls S1 → CA d q1 s ls → RF S1 → fc S S1 →
      x_go b_C_accountsOff P 4 [some (xv_r 0 0), some (xv_i (if al = true then 1 else 0)), some (xv_i ((List.range a).foldl (cstepX d al) 0)), some (xv_i (Int32.ofNat a)), j4] [] S1 0 0 := by
    intro r
    induction r with
    | zero =>
      intro a q1 S1 j4 hr ha r1 a1 f1 g1
      have e : a = 200 := by omega
      subst e
      refine x_go.run mn_C_accountsOff 20 ?_
      exact ⟨fun _ => h S1 ⟨q1, s, cp, ls, r1, a1, hc, f1⟩ g1, fun c => (c (by decide)).elim⟩
    | succ r ih =>
      intro a q1 S1 j4 hr ha r1 a1 f1 g1
      obtain ⟨o1, o2⟩ := off_small hi hn (a := a) (by omega)
      obtain ⟨o3, o4⟩ := off_iff o1 o2
      refine x_go.run mn_C_accountsOff 40 ?_
      refine ⟨fun c => ?_, fun _ => ?_⟩
      · have := (z_le (a := 200) (by decide) (by omega)).mp c
        omega
      refine ⟨nl rfl, _, _, r1.1, rfl, ?_⟩
      refine ⟨nl rfl, ⟨_, r1.2.2.1⟩, rfl, nl rfl, 0, 0, Nat.zero_le _, Nat.zero_le _, c_balanceOf r1 a1 hc f1 hb (by omega) fun q' S' r' a' f' g' _ _ => ?_⟩
      refine ⟨nl rfl, _, _, r'.1, rfl, ?_⟩
      refine ⟨_, _, r'.tak, z_in (by omega) (by decide), ?_⟩
      rw [z_nat (by omega), a'.1.2.2.2.2 a (by omega)]
      have fin : ∀ (v : Int32) (j4 : Option XV), v = cstepX d al ((List.range a).foldl (cstepX d al) 0) a → x_go b_C_accountsOff P 49 [some (xv_r 0 0), some (xv_i (if al = true then 1 else 0)), some (xv_i v), some (xv_i (Int32.ofNat a)), j4] [] S' 0 0 := by
        intro v j4 hv
        have kk := ih (a + 1) q' S' j4 (by omega) (by omega) r' a' f' (g1.tr g')
        rw [range_suc, ← z_suc, ← hv] at kk
        exact x_go.run mn_C_accountsOff 2 kk
      have inc : ∀ (j4 : Option XV), (List.range a).foldl (cstepX d al) 0 + 1 = cstepX d al ((List.range a).foldl (cstepX d al) 0) a → x_go b_C_accountsOff P 46 [some (xv_r 0 0), some (xv_i (if al = true then 1 else 0)), some (xv_i ((List.range a).foldl (cstepX d al) 0)), some (xv_i (Int32.ofNat a)), j4] [] S' 0 0 := by
        intro j4 hv
        exact x_go.run mn_C_accountsOff 1 (fin _ j4 hv)
      have cx : ∀ v, cstepX d al v a = if al = true then (if 500 = worthOf (d.2 4) (Int32.ofNat a) + d.1 18 a then v else v + 1) else (if 500 < worthOf (d.2 4) (Int32.ofNat a) + d.1 18 a then v + 1 else v) := fun v => rfl
      refine ⟨fun c1 => x_go.back mn_C_accountsOff (inc _ ?_), fun c1 => ?_⟩
      · have c1 := o3.mp c1
        have ne : ¬ 500 = worthOf (d.2 4) (Int32.ofNat a) + d.1 18 a := fun z => by
          rw [← z] at c1
          exact absurd c1 (by decide)
        rw [cx, if_neg ne, if_pos c1]
        split <;> rfl
      · have c1 : ¬ 500 < worthOf (d.2 4) (Int32.ofNat a) + d.1 18 a := fun z => c1 (o3.mpr z)
        refine ⟨fun c2 => x_go.back mn_C_accountsOff (fin _ _ ?_), fun c2 => ⟨fun c3 => x_go.back mn_C_accountsOff (fin _ _ ?_), fun c3 => x_go.back mn_C_accountsOff (inc _ ?_)⟩⟩
        · have : al = false := by
            cases al
            · rfl
            · exact absurd c2 (by decide)
          rw [cx, this, if_neg (by decide), if_neg c1]
        · have c3 := o4.mp c3
          have : 500 = worthOf (d.2 4) (Int32.ofNat a) + d.1 18 a := Int32.le_antisymm c3 (Int32.not_lt.mp c1)
          rw [cx, if_pos this, if_neg c1]
          split <;> rfl
        · have c3 : ¬ 500 ≤ worthOf (d.2 4) (Int32.ofNat a) + d.1 18 a := fun z => c3 (o4.mpr z)
          have al1 : al = true := by
            cases al
            · exact (c2 rfl).elim
            · rfl
          rw [cx, if_pos al1, if_neg (fun z => c3 (by rw [← z]; exact Int32.le_refl _))]
  refine x_go.run mn_C_accountsOff 4 ?_
  exact loop 200 0 q S none rfl (by decide) hR hA hF fc.rf
theorem c_quiet (hR : RC q s cp ls S) (hA : CA d q s ls) (h : P (.inl (some (xv_i (if dquietb d = true then 1 else 0)))) S) : Y_C_isQuiet 0 0 [xv_r 0 0] S P := by
  obtain ⟨f, hf, hf'⟩ := hR.2.2.2.2.2.2.2.1
  have loop : ∀ n m, 4 - m = n → m ≤ 4 → (∀ k, k < m → ¬ dbusy d k) → x_go b_C_isQuiet P 2 [some (xv_r 0 0), some (xv_i (Int32.ofNat m))] [] S 0 0 := by
    intro n
    induction n with
    | zero =>
      intro m hn hm hq
      have e : m = 4 := by omega
      subst e
      rw [if_pos (dquietb_iff.mpr hq)] at h
      refine x_go.run mn_C_isQuiet 20 ?_
      exact ⟨fun _ => ⟨Or.inr rfl, h⟩, fun c => (c (by decide)).elim⟩
    | succ n ih =>
      intro m hn hm hq
      refine x_go.run mn_C_isQuiet 20 ?_
      refine ⟨fun c => ?_, fun _ => ?_⟩
      · have := (z_le (a := 4) (by decide) (by omega)).mp c
        omega
      refine ⟨nl rfl, _, _, hR.1, rfl, ?_⟩
      refine ⟨nl rfl, _, _, hf, z_in (by omega) (by decide), ?_⟩
      rw [z_nat (by omega), hf' m (by omega)]
      refine ⟨nl rfl, ⟨_, hR.2.2.2.1 m (by omega)⟩, rfl, nl rfl, 0, 0, Nat.zero_le _, Nat.zero_le _, c_mquiet hR hA (by omega) (fun z => ?_) (fun z => ?_)⟩
      · rw [if_neg (fun y => dquietb_iff.mp y m (by omega) z)] at h
        exact ⟨fun c => (c rfl).elim, fun _ => ⟨Or.inl rfl, h⟩⟩
      · refine ⟨fun _ => ?_, fun c => (c (by decide)).elim⟩
        have kk := ih (m + 1) (by omega) (by omega) fun k hk => by
          rcases Nat.lt_succ_iff_lt_or_eq.mp hk with y | rfl
          · exact hq k y
          · exact z
        rw [← z_suc] at kk
        exact x_go.back mn_C_isQuiet (x_go.run mn_C_isQuiet 2 kk)
  refine x_go.run mn_C_isQuiet 2 ?_
  exact loop 4 0 rfl (by decide) fun k hk => by omega
theorem c_count {n : Nat} {c : Int32} (hK : KS d S) (hi : Iv n d) (hn : n ≤ 600) (hb : ¬ (0 ≤ c ∧ c ≤ 6) → kT d S 11 P) (ho : ∀ C, C ≤ 6 → c = Int32.ofNat C → kN d S (fun S' => P (.inl (some (xv_i (dcount d C)))) S')) : Y_C_count 3 18 [xv_r 0 0, xv_i c] S P := by
  obtain ⟨q, s, cp, ls, hR, hA, hc, hF⟩ := id hK
  by_cases hr : 0 ≤ c ∧ c ≤ 6
  · obtain ⟨C, hC, rfl⟩ := in_nat 6 (by decide) hr.1 hr.2
    have ho := ho C hC rfl
    unfold dcount at ho
    rcases (show C = 0 ∨ C = 1 ∨ C = 2 ∨ C = 3 ∨ C = 4 ∨ C = 5 ∨ C = 6 by omega) with rfl | rfl | rfl | rfl | rfl | rfl | rfl
    · refine x_go.run mn_C_count 20 ?_
      refine x_swk_of (n := 44) (by decide) ?_
      refine ⟨nl rfl, _, _, hR.1, rfl, ?_⟩
      refine ⟨nl rfl, ⟨_, hR.2.1⟩, rfl, nl rfl, 0, 0, Nat.zero_le _, Nat.zero_le _, c_nsize hR ?_⟩
      rw [hA.1.1 5 (by decide)]
      exact ho S hK fc.rf
    · rw [if_neg (by decide), if_pos rfl] at ho
      refine x_go.run mn_C_count 20 ?_
      refine x_swk_of (n := 52) (by decide) ?_
      refine ⟨nl rfl, _, _, hR.1, rfl, ?_⟩
      refine ⟨nl rfl, _, _, hR.2.2.1, rfl, ?_⟩
      refine ⟨nl rfl, ⟨_, hR.2.2.2.2.1 4 (by decide)⟩, rfl, nl rfl, 0, 0, Nat.zero_le _, Nat.zero_le _, c_ison hR (by decide) (by rw [hA.1.2.2.1]; exact on01) ?_⟩
      rw [hA.1.2.2.1]
      refine ⟨fun z => ?_, fun z => ?_⟩
      · rw [if_pos (on_iff.mp z)] at ho
        exact ho S hK fc.rf
      · rw [if_neg (fun y => z (on_iff.mpr y))] at ho
        exact ho S hK fc.rf
    · rw [if_neg (by decide), if_neg (by decide), if_pos rfl] at ho
      refine x_go.run mn_C_count 20 ?_
      refine x_swk_of (n := 71) (by decide) ?_
      refine ⟨nl rfl, _, _, hR.1, rfl, ?_⟩
      refine ⟨nl rfl, _, _, hR.2.2.1, rfl, ?_⟩
      refine ⟨nl rfl, ⟨_, hR.2.2.2.2.1 4 (by decide)⟩, rfl, nl rfl, 0, 0, Nat.zero_le _, Nat.zero_le _, c_jsize hR (by decide) ?_⟩
      rw [hA.1.1 4 (by decide)]
      exact ho S hK fc.rf
    · rw [if_neg (by decide), if_neg (by decide), if_neg (by decide), if_neg (by decide), if_pos rfl] at ho
      refine x_go.run mn_C_count 20 ?_
      refine x_swk_of (n := 82) (by decide) ?_
      exact ⟨nl rfl, ⟨_, hR.1⟩, rfl, nl rfl, 0, 0, Nat.zero_le _, Nat.zero_le _, c_allBal hR hA hc hF hi.1.2.1 ho⟩
    · rw [if_neg (by decide), if_neg (by decide), if_neg (by decide), if_neg (by decide), if_neg (by decide), if_pos rfl] at ho
      refine x_go.run mn_C_count 20 ?_
      refine x_swk_of (n := 87) (by decide) ?_
      exact ⟨nl rfl, ⟨_, hR.1⟩, rfl, nl rfl, 0, 0, Nat.zero_le _, Nat.zero_le _, c_accOff (al := false) hR hA hc hF hi hn ho⟩
    · rw [if_neg (by decide), if_neg (by decide), if_neg (by decide), if_neg (by decide), if_neg (by decide), if_neg (by decide)] at ho
      refine x_go.run mn_C_count 20 ?_
      refine x_swk_of (n := 93) (by decide) ?_
      refine ⟨nl rfl, ⟨_, hR.1⟩, rfl, nl rfl, 0, 0, Nat.zero_le _, Nat.zero_le _, c_quiet hR hA ?_⟩
      by_cases z : dquietb d = true
      · rw [if_pos z] at ho ⊢
        refine ⟨fun c => absurd c (by decide), fun _ => ?_⟩
        exact ⟨nl rfl, ⟨_, hR.1⟩, rfl, nl rfl, 0, 0, Nat.zero_le _, Nat.zero_le _, c_accOff (al := true) hR hA hc hF hi hn ho⟩
      · rw [if_neg z] at ho ⊢
        exact ⟨fun _ => ho S hK fc.rf, fun c => (c rfl).elim⟩
    · rw [if_neg (by decide), if_neg (by decide), if_neg (by decide), if_pos rfl] at ho
      refine x_go.run mn_C_count 20 ?_
      refine x_swk_of (n := 110) (by decide) ?_
      refine ⟨nl rfl, _, _, hR.1, rfl, ?_⟩
      refine ⟨nl rfl, _, _, hR.2.2.1, rfl, ?_⟩
      rw [hA.2.2.2]
      exact ho S hK fc.rf
  · obtain ⟨nx, -, -, hnx⟩ := hF.fr
    have hq : c.toInt < 0 ∨ 6 < c.toInt := by
      rw [Int32.le_iff_toInt_le, Int32.le_iff_toInt_le] at hr
      change ¬ ((0 : Int) ≤ c.toInt ∧ c.toInt ≤ 6) at hr
      omega
    refine x_go.run mn_C_count 4 ?_
    refine x_swk_of (n := 118) ?_ ⟨nl rfl, nl rfl, nl rfl, 12, nx, nl rfl, hnx, (hb hr).use hK hnx⟩
    unfold swt
    rw [if_neg (by omega)]
    unfold swt
    rw [if_neg (by omega)]
    unfold swt
    rw [if_neg (by omega)]
    unfold swt
    rw [if_neg (by omega)]
    unfold swt
    rw [if_neg (by omega)]
    unfold swt
    rw [if_neg (by omega)]
    unfold swt
    rw [if_neg (by omega)]
    rfl
end CJ
