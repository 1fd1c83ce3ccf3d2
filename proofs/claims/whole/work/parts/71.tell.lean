/-- what never changes -/
def ro (S : XH) : Prop := (∀ i, i < 4 → S 49 i = some (.inl (20, [xv_i (Int32.ofNat (i + 1))]))) ∧ (∀ i, i < 6 → S 50 i = some (.inl (21, [xv_r 51 i, xv_i (st_tb i), xv_i (st_ha i), xv_i (st_hn i)]))) ∧ (∀ i, i < 6 → S 51 i = some (.inl (22, [xv_r 52 i, xv_i 0]))) ∧ (∀ i, i < 6 → S 52 i = some (.inr (2, 4, .inl (st_dg i)))) ∧ (∀ i, i < 2 → S 53 i = some (.inr (0, 4, .inl st_wth))) ∧ rk S
theorem ro.of {S S' : XH} (h : ro S) (h' : ∀ k, 49 ≤ k → S' k = S k) : ro S' := by
  unfold ro rk
  rw [h' 49 (by decide), h' 50 (by decide), h' 51 (by decide), h' 52 (by decide), h' 53 (by decide), h' 54 (by decide), h' 55 (by decide)]
  exact h
theorem ro.fc {S S' : XH} (h : ro S) (h' : fc S S') : ro S' := h.of fun k hk => h' k (Or.inr (by omega))
theorem ro.fm {S S' : XH} (h : ro S) (h' : fm S S') : ro S' := h.of fun k hk => h' k (Or.inr (by omega))
section CH
variable {q : Nat → Nat → Int32} {s cp : Nat → Nat} {ls : Nat → List R6} {S : XH} {P : XP} {d : DS}
theorem c_mtell {m C : Nat} (hR : RC q s cp ls S) (hA : CA d q s ls) (hro : ro S) (hm : m < 4) (hC : C ≤ 3) (h : P (.inl (some (xv_i (dtold d m C)))) S) : Y_M_tell 0 0 [xv_r 3 m, xv_i (Int32.ofNat C)] S P := by
  have hM := hR.2.2.2.1 m hm
  have hon := hA.on hm
  obtain ⟨s4, hcm⟩ := hA.2.1 m hm
  have ne : ∀ {a b : Nat}, a ≠ b → a < 100 → b < 100 → ¬ Int32.ofNat a = Int32.ofNat b := fun h a b z => h ((z_eq (by omega) (by omega)).mp z)
  refine x_go.run mn_M_tell 40 ?_
  refine ⟨fun c => ?_, fun c => ?_⟩
  · have c3 : C ≠ 3 := fun z => c (by rw [z]; rfl)
    refine ⟨nl rfl, _, _, hM, rfl, ?_⟩
    refine ⟨nl rfl, ⟨_, hR.2.2.2.2.1 m (by omega)⟩, rfl, nl rfl, 0, 0, Nat.zero_le _, Nat.zero_le _, c_ison hR (by omega) (by rw [hon]; exact on01) ?_⟩
    rw [hon]
    unfold dtold at h
    refine ⟨fun c0 => ?_, fun c0 => ?_⟩
    · have c0 : d.1 10 m ≠ 0 := fun z => c0 (on_iff.mpr z)
      rw [if_neg (fun z => c0 z.1), if_neg (by omega)] at h
      obtain ⟨a1, a2, a3, -⟩ := hcm c0
      refine ⟨fun c1 => ?_, fun c1 => ?_⟩
      · have n0 : C ≠ 0 := fun z => c1 (by rw [z]; rfl)
        rw [if_neg n0] at h
        refine ⟨fun c2 => ?_, fun c2 => ?_⟩
        · have n1 : C ≠ 1 := fun z => c2 (by rw [z]; rfl)
          rw [if_neg n1, if_pos (by omega), ← a3] at h
          have hl := hR.2.2.2.2.2.2.2.2 (6 + m) (by omega)
          obtain ⟨fs, hfs⟩ := hl.obj
          refine ⟨nl rfl, _, _, hM, rfl, ?_⟩
          exact ⟨nl rfl, ⟨_, hfs⟩, rfl, nl rfl, 0, 0, Nat.zero_le _, Nat.zero_le _, c_size hl h⟩
        · have n1 : C = 1 := (z_eq (b := 1) (by omega) (by decide)).mp (Classical.not_not.mp c2)
          rw [if_pos n1, ← a2] at h
          refine ⟨nl rfl, _, _, hM, rfl, ?_⟩
          exact h
      · have n0 : C = 0 := (z_eq (b := 0) (by omega) (by decide)).mp (Classical.not_not.mp c1)
        rw [if_pos n0, a1] at h
        refine ⟨nl rfl, _, _, hM, rfl, ?_⟩
        refine ⟨by simp, _, _, hro.1 (s m) s4, rfl, h⟩
    · have c0 : d.1 10 m = 0 := on_iff.mp (Classical.not_not.mp c0)
      refine ⟨fun c1 => ?_, fun c1 => ?_⟩
      · have n0 : C ≠ 0 := fun z => c1 (by rw [z]; rfl)
        rw [if_pos ⟨c0, by omega⟩] at h
        exact h
      · have n0 : C = 0 := (z_eq (b := 0) (by omega) (by decide)).mp (Classical.not_not.mp c1)
        rw [if_neg (by omega), if_neg (by omega), if_pos n0, c0] at h
        exact h
  · have c3 : C = 3 := (z_eq (b := 3) (by omega) (by decide)).mp (Classical.not_not.mp c)
    subst c3
    refine ⟨nl rfl, _, _, hM, rfl, ?_⟩
    refine ⟨nl rfl, ⟨_, hR.2.2.2.2.1 m (by omega)⟩, rfl, nl rfl, 0, 0, Nat.zero_le _, Nat.zero_le _, c_jsize hR (by omega) ?_⟩
    unfold dtold at h
    rw [if_neg (by omega), if_neg (by omega), if_neg (by omega), if_neg (by omega), if_neg (by omega), if_pos rfl, ← hA.1.1 m (by omega)] at h
    exact h
theorem c_dtell {m C : Nat} (hR : RC q s cp ls S) (hA : CA d q s ls) (hm : m < 4) (hC : 4 ≤ C) (hC' : C ≤ 10) (h : P (.inl (some (xv_i (dtold d m C)))) S) : Y_D_tell 0 0 [xv_r 5 m, xv_i (Int32.ofNat C)] S P := by
  have hD := hR.2.2.2.2.2.1 m hm
  have hN := hR.notes hm
  obtain ⟨b1, b2, b3, b4, b5, b6, b7, b8⟩ := hA.1.2.1 m hm
  unfold dtold at h
  rw [if_neg (by omega)] at h
  refine x_go.run mn_D_tell 30 ?_
  have tail : ¬ C ≤ 7 → x_go b_D_tell P 20 [some (xv_r 5 m), some (xv_i (Int32.ofNat C))] [] S 0 0 := by
    intro c7
    rw [if_neg (by omega), if_neg (by omega), if_neg (by omega), if_neg (by omega), if_neg (by omega)] at h
    refine x_go.run mn_D_tell 20 ?_
    refine ⟨fun c => ?_, fun c => ?_⟩
    · have n8 : C ≠ 8 := fun z => c (by rw [z]; rfl)
      rw [if_neg n8] at h
      refine ⟨fun c => ?_, fun c => ?_⟩
      · have n9 : C ≠ 9 := fun z => c (by rw [z]; rfl)
        rw [if_neg n9, ← b7] at h
        refine ⟨nl rfl, _, _, hD, rfl, ?_⟩
        exact h
      · have n9 : C = 9 := (z_eq (b := 9) (by omega) (by decide)).mp (Classical.not_not.mp c)
        rw [if_pos n9, ← b6] at h
        refine ⟨nl rfl, _, _, hD, rfl, ?_⟩
        exact h
    · have n8 : C = 8 := (z_eq (b := 8) (by omega) (by decide)).mp (Classical.not_not.mp c)
      rw [if_pos n8, ← b5] at h
      refine ⟨nl rfl, _, _, hD, rfl, ?_⟩
      exact h
  refine ⟨fun c => ?_, fun c => ⟨fun c' => x_go.back mn_D_tell (tail ?_), fun c' => ?_⟩⟩
  · have := (z_lt (b := 4) (by omega) (by decide)).mp c
    omega
  · have := (z_lt (a := 7) (by decide) (by omega)).mp c'
    omega
  · have c7 : C ≤ 7 := by
      rcases Nat.lt_or_ge 7 C with y | y
      · exact (c' ((z_lt (a := 7) (by decide) (by omega)).mpr y)).elim
      · exact y
    rw [if_pos ⟨hC, c7⟩, ← b8 (C - 4) (by omega)] at h
    have e4 : Int32.ofNat C - 4 = Int32.ofNat (C - 4) := z_sub (b := 4) hC
    refine ⟨nl rfl, _, _, hD, rfl, ?_⟩
    refine ⟨_, _, hN, ?_, ?_⟩
    · show vp_in (Int32.ofNat C - 4) 4
      rw [e4]
      exact z_in (by omega) (by decide)
    · show P (.inl (some (xv_i (q (20 + m) (Int32.ofNat C - 4).toNatClampNeg)))) S
      rw [e4, z_nat (by omega)]
      exact h
theorem c_told {m c : Int32} (hK : KS d S) (hro : ro S) (hb : ¬ (0 ≤ m ∧ m ≤ 3 ∧ 0 ≤ c ∧ c ≤ 10) → kT d S 11 P) (ho : ∀ M C, M < 4 → C ≤ 10 → m = Int32.ofNat M → c = Int32.ofNat C → kN d S (fun S' => P (.inl (some (xv_i (dtold d M C)))) S')) : Y_C_told 3 18 [xv_r 0 0, xv_i m, xv_i c] S P := by
  obtain ⟨q, s, cp, ls, hR, hA, hc, hF⟩ := id hK
  refine x_go.run mn_C_told 40 ?_
  refine ⟨nl rfl, ⟨_, hR.1⟩, rfl, nl rfl, 1, 6, nl rfl, nl rfl, c_machineAt hR hF (fun h nx hn => (hb fun z => h ⟨z.1, z.2.1⟩).use hK hn) fun M hM e => ?_⟩
  subst e
  have bad : ¬ (0 ≤ c ∧ c ≤ 10) → x_go b_C_told P 20 [some (xv_r 0 0), some (xv_i (Int32.ofNat M)), some (xv_i c), some (xv_r 3 M)] [] S 2 12 := fun h => by
    refine x_go.run mn_C_told 3 ?_
    exact ⟨nl rfl, rfl, nl rfl, 1, 6, nl rfl, nl rfl, c_allow0 hF (nl rfl) (nl rfl) fun nx hn => (hb fun z => h z.2.2).use hK hn⟩
  refine ⟨fun c => x_go.back mn_C_told (bad fun z => Int32.not_lt.mpr z.1 c), fun c1 => ⟨fun c' => x_go.back mn_C_told (bad fun z => Int32.not_lt.mpr z.2 c'), fun c' => ?_⟩⟩
  obtain ⟨C, hC, rfl⟩ := in_nat 10 (by decide) (Int32.not_lt.mp c1) (Int32.not_lt.mp c')
  have ho := ho M C hM hC rfl rfl S hK fc.rf
  refine ⟨nl rfl, rfl, nl rfl, 0, 0, Nat.zero_le _, Nat.zero_le _, c_allow1 ?_⟩
  refine ⟨fun c3 => ?_, fun c3 => ?_⟩
  · have := (z_lt (a := 3) (by decide) (by omega)).mp c3
    refine ⟨nl rfl, _, _, (hR.2.2.2.1 M hM), rfl, ?_⟩
    exact ⟨nl rfl, ⟨_, hR.2.2.2.2.2.1 M hM⟩, rfl, nl rfl, 0, 0, Nat.zero_le _, Nat.zero_le _, c_dtell hR hA hM (by omega) hC ho⟩
  · have c3 : C ≤ 3 := by
      rcases Nat.lt_or_ge 3 C with y | y
      · exact (c3 ((z_lt (a := 3) (by decide) (by omega)).mpr y)).elim
      · exact y
    exact ⟨nl rfl, ⟨_, hR.2.2.2.1 M hM⟩, rfl, nl rfl, 0, 0, Nat.zero_le _, Nat.zero_le _, c_mtell hR hA hro hM c3 ho⟩
end CH
