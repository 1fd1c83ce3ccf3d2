section CG
variable {q : Nat → Nat → Int32} {s cp : Nat → Nat} {ls : Nat → List R6} {S : XH} {P : XP} {d : DS}
noncomputable def mixI (d : DS) (m v : Nat) : Int32 := match dmix d m v with
  | some x => pk x
  | none => -1
set_option maxHeartbeats 4000000 in
theorem c_mixOf {m v : Nat} (hR : RC q s cp ls S) (hB : CB d q ls) (hm : m < 4) (hn : ntok (d.1 13) m) (hv : v ≤ 1000) (h : P (.inl (some (xv_i (mixI d m v)))) S) : Y_D_mixOf 0 0 [xv_r 5 m, xv_i (Int32.ofNat v)] S P := by
  have hD := hR.2.2.2.2.2.1 m hm
  have hN := hR.notes hm
  have e8 : ∀ c, c < 4 → q (20 + m) c = Int32.ofNat (nts (d.1 13) m c) ∧ nts (d.1 13) m c ≤ 500 := fun c hc => by
    rw [(hB.2.1 m hm).2.2.2.2.2.2.2 c hc]
    exact hn.eq hc
  obtain ⟨n0, n0'⟩ := e8 0 (by decide)
  obtain ⟨n1, n1'⟩ := e8 1 (by decide)
  obtain ⟨n2, n2'⟩ := e8 2 (by decide)
  obtain ⟨n3, n3'⟩ := e8 3 (by decide)
  have loop : ∀ k (F : Nat) (best : Q4) (bv : Int32) (j5 j6 j7 j8 j9 : Option XV), k ≤ min (nts (d.1 13) m 3) (v / 50) + 1 → JF (nts (d.1 13) m) v k F best → F ≤ 41 → bv = (if F = 41 then -1 else pk best) →
      x_go b_D_mixOf P 20 [some (xv_r 5 m), some (xv_i (Int32.ofNat v)), some (xv_i bv), some (xv_i (Int32.ofNat F)), some (xv_i (Int32.ofNat k - 1)), j5, j6, j7, j8, j9] [] S 0 0 := by
    intro k
    induction k with
    | zero =>
      intro F best bv j5 j6 j7 j8 j9 hk hJ hF hb
      refine x_go.run mn_D_mixOf 10 ?_
      refine ⟨fun _ => ?_, fun c => (c z_m1).elim⟩
      have hm : bv = mixI d m v := by
        rw [hb]
        unfold mixI
        rcases hJ with ⟨q1, q2⟩ | ⟨q1, q2, q3, q4⟩
        · rw [if_pos q1, dmix_none fun x hx => q2 x hx (Nat.zero_le _)]
        · have := q1.2.2.2.2.2
          rw [if_neg (by omega), dmix_some ⟨q1, fun y hy => q4 y hy (Nat.zero_le _)⟩]
      rw [hm]
      exact h
    | succ k ih =>
      intro F best bv j5 j6 j7 j8 j9 hk hJ hF hb
      rw [z_suc1]
      have hk3 : k ≤ nts (d.1 13) m 3 := by omega
      have hk5 : 50 * k ≤ v := by omega
      have e1 : Int32.ofNat v - 50 * Int32.ofNat k = Int32.ofNat (v - 50 * k) := by
        rw [show (50 : Int32) * Int32.ofNat k = Int32.ofNat (50 * k) from z_mul 50 k, z_sub hk5]
      refine x_go.run mn_D_mixOf 8 ?_
      refine ⟨fun c => (z_neg (by omega) c).elim, fun _ => ?_⟩
      show x_go b_D_mixOf P 34 [some (xv_r 5 m), some (xv_i (Int32.ofNat v)), some (xv_i bv), some (xv_i (Int32.ofNat F)), some (xv_i (Int32.ofNat k)), some (xv_i (Int32.ofNat v - 50 * Int32.ofNat k)), j6, j7, j8, j9] [] S 0 0
      rw [e1]
      obtain ⟨c, hc⟩ : ∃ c, c = min (nts (d.1 13) m 2) ((v - 50 * k) / 20) := ⟨_, rfl⟩
      have hc20 : 20 * c ≤ v - 50 * k := by
        have : c ≤ (v - 50 * k) / 20 := by
          rw [hc]
          exact Nat.min_le_right _ _
        omega
      have e2 : (if Int32.ofNat (v - 50 * k) / 20 < Int32.ofNat (nts (d.1 13) m 2) then Int32.ofNat (v - 50 * k) / 20 else Int32.ofNat (nts (d.1 13) m 2)) = Int32.ofNat c := by
        rw [show Int32.ofNat (v - 50 * k) / 20 = Int32.ofNat ((v - 50 * k) / 20) from z_div (b := 20) (by omega) (by decide), z_min _ _ (by omega) (by omega), hc]
      have e3 : Int32.ofNat (v - 50 * k) - 20 * Int32.ofNat c = Int32.ofNat (v - 50 * k - 20 * c) := by
        rw [show (20 : Int32) * Int32.ofNat c = Int32.ofNat (20 * c) from z_mul 20 c, z_sub hc20]
      refine x_go.run mn_D_mixOf 15 ?_
      refine ⟨nl rfl, _, _, hD, rfl, ?_⟩
      refine ⟨_, _, hN, z_in (k := 2) (by decide) (by decide), by decide, nl rfl, ?_⟩
      show x_go b_D_mixOf P 60 [some (xv_r 5 m), some (xv_i (Int32.ofNat v)), some (xv_i bv), some (xv_i (Int32.ofNat F)), some (xv_i (Int32.ofNat k)), some (xv_i (Int32.ofNat (v - 50 * k) - 20 * (if Int32.ofNat (v - 50 * k) / 20 < q (20 + m) 2 then Int32.ofNat (v - 50 * k) / 20 else q (20 + m) 2))), some (xv_i (if Int32.ofNat (v - 50 * k) / 20 < q (20 + m) 2 then Int32.ofNat (v - 50 * k) / 20 else q (20 + m) 2)), j7, j8, j9] [] S 0 0
      rw [n2, e2, e3]
      obtain ⟨b, hb1⟩ : ∃ b, b = min (nts (d.1 13) m 1) ((v - 50 * k - 20 * c) / 10) := ⟨_, rfl⟩
      have hb10 : 10 * b ≤ v - 50 * k - 20 * c := by
        have : b ≤ (v - 50 * k - 20 * c) / 10 := by
          rw [hb1]
          exact Nat.min_le_right _ _
        omega
      have e4 : (if Int32.ofNat (v - 50 * k - 20 * c) / 10 < Int32.ofNat (nts (d.1 13) m 1) then Int32.ofNat (v - 50 * k - 20 * c) / 10 else Int32.ofNat (nts (d.1 13) m 1)) = Int32.ofNat b := by
        rw [show Int32.ofNat (v - 50 * k - 20 * c) / 10 = Int32.ofNat ((v - 50 * k - 20 * c) / 10) from z_div (b := 10) (by omega) (by decide), z_min _ _ (by omega) (by omega), hb1]
      have e5 : Int32.ofNat (v - 50 * k - 20 * c) - 10 * Int32.ofNat b = Int32.ofNat (v - 50 * k - 20 * c - 10 * b) := by
        rw [show (10 : Int32) * Int32.ofNat b = Int32.ofNat (10 * b) from z_mul 10 b, z_sub hb10]
      refine x_go.run mn_D_mixOf 15 ?_
      refine ⟨nl rfl, _, _, hD, rfl, ?_⟩
      refine ⟨_, _, hN, z_in (k := 1) (by decide) (by decide), by decide, nl rfl, ?_⟩
      show x_go b_D_mixOf P 86 [some (xv_r 5 m), some (xv_i (Int32.ofNat v)), some (xv_i bv), some (xv_i (Int32.ofNat F)), some (xv_i (Int32.ofNat k)), some (xv_i (Int32.ofNat (v - 50 * k - 20 * c) - 10 * (if Int32.ofNat (v - 50 * k - 20 * c) / 10 < q (20 + m) 1 then Int32.ofNat (v - 50 * k - 20 * c) / 10 else q (20 + m) 1))), some (xv_i (Int32.ofNat c)), some (xv_i (if Int32.ofNat (v - 50 * k - 20 * c) / 10 < q (20 + m) 1 then Int32.ofNat (v - 50 * k - 20 * c) / 10 else q (20 + m) 1)), j8, j9] [] S 0 0
      rw [n1, e4, e5]
      obtain ⟨r, hr⟩ : ∃ r, r = v - 50 * k - 20 * c - 10 * b := ⟨_, rfl⟩
      rw [← hr]
      have e6 : Int32.ofNat r / 5 = Int32.ofNat (r / 5) := z_div (b := 5) (by omega) (by decide)
      have e7 : Int32.ofNat k + Int32.ofNat c + Int32.ofNat b + Int32.ofNat (r / 5) = Int32.ofNat (k + c + b + r / 5) := by
        rw [z_add, z_add, z_add]
      have e8' : Int32.ofNat r - Int32.ofNat (r / 5) * 5 = Int32.ofNat (r % 5) := by
        rw [show Int32.ofNat (r / 5) * 5 = Int32.ofNat (r / 5 * 5) from z_mul (r / 5) 5, z_sub (by omega)]
        congr 1
        omega
      have bc : c ≤ 500 := by
        rw [hc]
        omega
      have bb : b ≤ 500 := by
        rw [hb1]
        omega
      refine x_go.run mn_D_mixOf 12 ?_
      refine ⟨by decide, ?_⟩
      show x_go b_D_mixOf P 105 [some (xv_r 5 m), some (xv_i (Int32.ofNat v)), some (xv_i bv), some (xv_i (Int32.ofNat F)), some (xv_i (Int32.ofNat k)), some (xv_i (Int32.ofNat r)), some (xv_i (Int32.ofNat c)), some (xv_i (Int32.ofNat b)), some (xv_i (Int32.ofNat r / 5)), some (xv_i (Int32.ofNat k + Int32.ofNat c + Int32.ofNat b + Int32.ofNat r / 5))] [] S 0 0
      rw [e6, e7]
      have next : ∀ (F : Nat) (best : Q4) (bv : Int32), JF (nts (d.1 13) m) v k F best → F ≤ 41 → bv = (if F = 41 then -1 else pk best) → x_go b_D_mixOf P 153 [some (xv_r 5 m), some (xv_i (Int32.ofNat v)), some (xv_i bv), some (xv_i (Int32.ofNat F)), some (xv_i (Int32.ofNat k)), some (xv_i (Int32.ofNat r)), some (xv_i (Int32.ofNat c)), some (xv_i (Int32.ofNat b)), some (xv_i (Int32.ofNat (r / 5))), some (xv_i (Int32.ofNat (k + c + b + r / 5)))] [] S 0 0 := by
        intro F best bv y1 y2 y3
        have kk := ih F best bv (some (xv_i (Int32.ofNat r))) (some (xv_i (Int32.ofNat c))) (some (xv_i (Int32.ofNat b))) (some (xv_i (Int32.ofNat (r / 5)))) (some (xv_i (Int32.ofNat (k + c + b + r / 5)))) (by omega) y1 y2 y3
        rw [← z_dec (Int32.ofNat k)] at kk
        exact x_go.run mn_D_mixOf 2 kk
      have pass : ¬ (r % 5 = 0 ∧ r / 5 ≤ nts (d.1 13) m 0 ∧ k + c + b + r / 5 < F) → x_go b_D_mixOf P 153 [some (xv_r 5 m), some (xv_i (Int32.ofNat v)), some (xv_i bv), some (xv_i (Int32.ofNat F)), some (xv_i (Int32.ofNat k)), some (xv_i (Int32.ofNat r)), some (xv_i (Int32.ofNat c)), some (xv_i (Int32.ofNat b)), some (xv_i (Int32.ofNat (r / 5))), some (xv_i (Int32.ofNat (k + c + b + r / 5)))] [] S 0 0 := fun z => next F best bv (hJ.pass hF hk5 hc hb1 hr z) hF hb
      refine x_go.run mn_D_mixOf 4 ?_
      refine ⟨by decide, ?_⟩
      rw [e6, e8']
      refine ⟨fun c1 => pass fun z => c1 (by show Int32.ofNat (r % 5) = 0; rw [z.1]; rfl), fun c1 => ?_⟩
      have g5 : r % 5 = 0 := (z_eq (b := 0) (by omega) (by decide)).mp (Classical.not_not.mp c1)
      show x_go b_D_mixOf P 112 _ _ _ _ _
      refine x_go.run mn_D_mixOf 6 ?_
      refine ⟨nl rfl, _, _, hD, rfl, ?_⟩
      refine ⟨_, _, hN, z_in (k := 0) (by decide) (by decide), ?_⟩
      rw [show q (20 + m) (Int32.toNatClampNeg 0) = _ from n0]
      refine ⟨fun c2 => pass fun z => ?_, fun c2 => ?_⟩
      · have := (z_lt (by omega) (by omega)).mp c2
        omega
      have g0 : r / 5 ≤ nts (d.1 13) m 0 := by
        rcases Nat.lt_or_ge (nts (d.1 13) m 0) (r / 5) with y | y
        · exact (c2 ((z_lt (by omega) (by omega)).mpr y)).elim
        · exact y
      show x_go b_D_mixOf P 123 _ _ _ _ _
      refine x_go.run mn_D_mixOf 3 ?_
      refine ⟨fun c3 => pass fun z => ?_, fun c3 => ?_⟩
      · have := (z_le (by omega) (by omega)).mp c3
        omega
      have gt : k + c + b + r / 5 < F := by
        rcases Nat.lt_or_ge (k + c + b + r / 5) F with y | y
        · exact y
        · exact (c3 ((z_le (by omega) (by omega)).mpr y)).elim
      show x_go b_D_mixOf P 129 _ _ _ _ _
      refine x_go.run mn_D_mixOf 16 ?_
      have kk := next (k + c + b + r / 5) (r / 5, b, c, k) (pk (r / 5, b, c, k)) (hJ.take hF hk5 hk3 hc hb1 hr g5 g0 gt) (by omega) (by rw [if_neg (by omega)])
      rw [← pk_or (by omega) (by omega) (by omega) (by omega)] at kk
      exact kk
  have e50 : (if Int32.ofNat v / 50 < Int32.ofNat (nts (d.1 13) m 3) then Int32.ofNat v / 50 else Int32.ofNat (nts (d.1 13) m 3)) = Int32.ofNat (min (nts (d.1 13) m 3) (v / 50)) := by
    rw [show Int32.ofNat v / 50 = Int32.ofNat (v / 50) from z_div (b := 50) (by omega) (by decide), z_min _ _ (by omega) (by omega)]
  refine x_go.run mn_D_mixOf 13 ?_
  refine ⟨nl rfl, _, _, hD, rfl, ?_⟩
  refine ⟨_, _, hN, z_in (k := 3) (by decide) (by decide), by decide, nl rfl, ?_⟩
  have kk := loop _ 41 (0, 0, 0, 0) (-1) none none none none none (Nat.le_refl _) JF.first (Nat.le_refl _) (if_pos rfl).symm
  rw [z_suc1, ← e50, ← n3] at kk
  exact kk
theorem mix_40 {m v : Nat} {x : Q4} (h : dmix d m v = some x) : x.1 ≤ 40 ∧ x.2.1 ≤ 40 ∧ x.2.2.1 ≤ 40 ∧ x.2.2.2 ≤ 40 := by
  have := (dmix_is h).1.2.2.2.2.2
  unfold q4t at this
  omega
theorem pk_pos {x : Q4} (h : x.1 ≤ 40 ∧ x.2.1 ≤ 40 ∧ x.2.2.1 ≤ 40 ∧ x.2.2.2 ≤ 40) : pk x ≠ -1 := by
  intro z
  have h1 := z_neg (n := 16777216 * x.2.2.2 + 65536 * x.2.2.1 + 256 * x.2.1 + x.1) (by omega)
  apply h1
  show pk x < 0
  rw [z]
  decide
theorem c_notesIn {x : Q4} {c : Nat} (hx : x.1 ≤ 40 ∧ x.2.1 ≤ 40 ∧ x.2.2.1 ≤ 40 ∧ x.2.2.2 ≤ 40) (hc : c < 4) (h : P (.inl (some (xv_i (Int32.ofNat (q4c x c))))) S) : Y_D_notesIn 0 0 [xv_i (pk x), xv_i (Int32.ofNat c)] S P := by
  refine x_go.run mn_D_notesIn 8 ?_
  have := pk_at hx.1 hx.2.1 hx.2.2.1 hx.2.2.2 hc
  rw [← this] at h
  exact h
theorem c_mix {m v c : Int32} (hK : KS d S) (hn : ∀ M, M < 4 → ntok (d.1 13) M) (hb : ¬ (0 ≤ m ∧ m ≤ 3 ∧ 0 ≤ v ∧ v ≤ 1000 ∧ 0 ≤ c ∧ c ≤ 3) → kT d S 11 P) (ho : ∀ M V C, M < 4 → V ≤ 1000 → C < 4 → m = Int32.ofNat M → v = Int32.ofNat V → c = Int32.ofNat C → kN d S (fun S' => P (.inl (some (xv_i (dmixv d M V C)))) S')) : Y_C_mix 3 18 [xv_r 0 0, xv_i m, xv_i v, xv_i c] S P := by
  obtain ⟨q, s, cp, ls, hR, hA, hc, hF⟩ := id hK
  refine x_go.run mn_C_mix 40 ?_
  refine ⟨nl rfl, ⟨_, hR.1⟩, rfl, nl rfl, 1, 6, nl rfl, nl rfl, c_machineAt hR hF (fun h nx hn => (hb fun z => h ⟨z.1, z.2.1⟩).use hK hn) fun M hM e => ?_⟩
  subst e
  have bad : ¬ (0 ≤ v ∧ v ≤ 1000 ∧ 0 ≤ c ∧ c ≤ 3) → x_go b_C_mix P 29 [some (xv_r 0 0), some (xv_i (Int32.ofNat M)), some (xv_i v), some (xv_i c), some (xv_r 3 M), none] [] S 2 12 := fun h => by
    refine x_go.run mn_C_mix 3 ?_
    exact ⟨nl rfl, rfl, nl rfl, 1, 6, nl rfl, nl rfl, c_allow0 hF (nl rfl) (nl rfl) fun nx hn => (hb fun z => h z.2.2).use hK hn⟩
  refine ⟨nl rfl, rfl, nl rfl, 0, 0, Nat.zero_le _, Nat.zero_le _, c_isCassette (fun g1 g2 => ?_) (fun g => ?_)⟩
  · refine ⟨fun c1 => absurd c1 (by decide), fun _ => ?_⟩
    refine ⟨fun c => x_go.back mn_C_mix (bad fun z => Int32.not_lt.mpr z.1 c), fun c1 => ⟨fun c' => x_go.back mn_C_mix (bad fun z => Int32.not_lt.mpr z.2.1 c'), fun c' => ?_⟩⟩
    obtain ⟨C, hC, rfl⟩ := in_nat 3 (by decide) g1 g2
    obtain ⟨V, hV, rfl⟩ := in_nat 1000 (by decide) (Int32.not_lt.mp c1) (Int32.not_lt.mp c')
    have ho := ho M V C hM hV (by omega) rfl rfl rfl
    refine ⟨nl rfl, rfl, nl rfl, 0, 0, Nat.zero_le _, Nat.zero_le _, c_allow1 ?_⟩
    refine ⟨nl rfl, _, _, (hR.2.2.2.1 M hM), rfl, ?_⟩
    refine ⟨nl rfl, ⟨_, hR.2.2.2.2.2.1 M hM⟩, rfl, nl rfl, 0, 0, Nat.zero_le _, Nat.zero_le _, c_mixOf hR hA.1 hM (hn M hM) hV ?_⟩
    have ho := ho S hK fc.rf
    unfold dmixv at ho
    unfold mixI
    cases e : dmix d M V with
    | none =>
      rw [e] at ho
      exact ⟨fun c => (c rfl).elim, fun _ => ho⟩
    | some x =>
      rw [e] at ho
      have h40 := mix_40 e
      refine ⟨fun _ => ?_, fun c => (c (pk_pos h40)).elim⟩
      exact ⟨nl rfl, rfl, nl rfl, 0, 0, Nat.zero_le _, Nat.zero_le _, c_notesIn h40 (by omega) ho⟩
  · exact ⟨fun _ => x_go.back mn_C_mix (bad fun z => g z.2.2), fun c => (c rfl).elim⟩
end CG
