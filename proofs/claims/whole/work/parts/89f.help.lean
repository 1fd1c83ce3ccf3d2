/-! the law's helpers -/
theorem KS.of {d : DS} {S S' : XH} (h : KS d S) (h' : ∀ k, k < 15 ∨ (20 ≤ k ∧ k < 30) ∨ k = 54 → S' k = S k) : KS d S' := by
  obtain ⟨q, s, cp, ls, ⟨r0, r1, r2, r3, r4, r5, r6, ⟨f, r7, r7'⟩, r8⟩, hA, hc, n, hn⟩ := h
  refine ⟨q, s, cp, ls, ⟨by rw [h' 0 (by omega)]; exact r0, by rw [h' 1 (by omega)]; exact r1, by rw [h' 2 (by omega)]; exact r2, fun m hm => by rw [h' 3 (by omega)]; exact r3 m hm, fun m hm => by rw [h' 4 (by omega)]; exact r4 m hm, fun m hm => by rw [h' 5 (by omega)]; exact r5 m hm, fun m hm => by rw [h' 8 (by omega)]; exact r6 m hm, ⟨f, by rw [h' 9 (by omega)]; exact r7, r7'⟩, fun j hj => (r8 j hj).keep (by rw [h' 6 (by omega)]) (h' _ (by omega)) (h' 54 (by omega)) fun p c hc => ?_⟩, hA, hc, n, fun i hi => ?_⟩
  · rw [h' (lk j) (by unfold lk; split <;> omega)]
    exact hc
  · obtain ⟨a1, a2, a3, a4, a5, a6⟩ := hn i hi
    exact ⟨by rw [h' 10 (by omega)]; exact a1, by rw [h' 11 (by omega)]; exact a2, by rw [h' 12 (by omega)]; exact a3, by rw [h' 13 (by omega)]; exact a4, by rw [h' 14 (by omega)]; exact a5, fun j hj => by rw [h' (20 + j) (by omega)]; exact a6 j hj⟩
def fo (S S' : XH) : Prop := ∀ k, (15 ≤ k ∧ k < 20) ∨ 31 ≤ k → S' k = S k
def outA (S : XH) : Prop := ∃ f, S 30 0 = some (.inr (1, 1, .inr (.inl f)))
def lV (d : DS) (th : Int32) (S : XH) (P : XP) : Prop := ∀ S', KS d S' → fc S S' → P (.inl (some (xv_i th))) S'
def lO (d : DS) (th v : Int32) (S : XH) (P : XP) : Prop := ∀ S' f, KS d S' → fo S S' → S' 30 0 = some (.inr (1, 1, .inr (.inl f))) → (th = 0 → f 0 = v.toInt64) → P (.inl (some (xv_i th))) S'
theorem fc.fo {S S' : XH} (h : fc S S') : fo S S' := fun k hk => h k (by omega)
theorem outA.fc {S S' : XH} (h : outA S) (h' : fc S S') : outA S' := by
  obtain ⟨f, hf⟩ := h
  exact ⟨f, by rw [h' 30 (by omega)]; exact hf⟩
section DE
variable {S : XH} {P : XP} {d : DS}
theorem lO.thr {th v : Int32} (h : lO d th v S P) (ho : outA S) (hth : th ≠ 0) {S' : XH} (hk : KS d S') (hf : fc S S') : P (.inl (some (xv_i th))) S' := by
  obtain ⟨f, hf'⟩ := ho.fc hf
  exact h S' f hk hf.fo hf' fun z => (hth z).elim
theorem lO.out {v : Int32} (h : lO d 0 v S P) {S' : XH} (hk : KS d S') (hf : fc S S') {f : Nat → Int64} : P (.inl (some (xv_i 0))) (x_up S' 30 0 (.inr (1, 1, .inr (.inl (vp_updL f 0 v.toInt64))))) := by
  refine h _ (vp_updL f 0 v.toInt64) (hk.of fun k hk' => x_up_k (by omega)) (fun k hk' => ?_) (x_up_self _ _ _ _) fun _ => if_pos rfl
  rw [x_up_k (by omega)]
  exact hf k (by omega)
theorem l_card {m a : Int32} (hK : KS d S) (hb : ¬ (0 ≤ m ∧ m ≤ 3 ∧ 0 ≤ a ∧ a ≤ 199) → lV d 1 S P) (ho : ∀ M A, M < 4 → A < 200 → m = Int32.ofNat M → a = Int32.ofNat A → lV (dcard d M A).1 (dcard d M A).2 S P) : Y_L_card 3 18 [xv_r 0 0, xv_i m, xv_i a] S P := by
  obtain ⟨q, s, cp, ls, hR, -⟩ := id hK
  refine x_go.run mn_L_card 8 ?_
  refine ⟨nl rfl, ⟨_, hR.1⟩, rfl, nl rfl, 3, 18, nl rfl, nl rfl, c_card hK (fun h S' nx k f hx => ⟨11, [], 9, hx, nl rfl, rfl, hb h S' k f⟩) fun M A hM hA e1 e2 => ⟨fun z S' nx k f hx => ⟨12, [], 12, hx, nl rfl, rfl, ?_⟩, fun z S' k f => ?_⟩⟩
  · have := ho M A hM hA e1 e2 S' k f
    rw [z] at this
    exact this
  · have := ho M A hM hA e1 e2 S' k f
    rw [z] at this
    exact this
theorem l_jam {m j : Int32} (hK : KS d S) (hb : ¬ (0 ≤ m ∧ m ≤ 3 ∧ 0 ≤ j ∧ j ≤ 41) → lV d 1 S P) (ho : ∀ M J, M < 4 → J ≤ 41 → m = Int32.ofNat M → j = Int32.ofNat J → lV (dset d 17 M (Int32.ofNat J)) 0 S P) : Y_L_jam 3 18 [xv_r 0 0, xv_i m, xv_i j] S P := by
  obtain ⟨q, s, cp, ls, hR, -⟩ := id hK
  refine x_go.run mn_L_jam 8 ?_
  exact ⟨nl rfl, ⟨_, hR.1⟩, rfl, nl rfl, 3, 18, nl rfl, nl rfl, c_jam hK (fun h S' nx k f hx => ⟨11, [], 9, hx, nl rfl, rfl, hb h S' k f⟩) fun M J hM hJ e1 e2 S' k f => ho M J hM hJ e1 e2 S' k f⟩
theorem l_power {m k b : Int32} (hK : KS d S) (hb : ¬ (0 ≤ m ∧ m ≤ 4 ∧ 0 ≤ k ∧ k ≤ 50 ∧ 0 ≤ b ∧ b ≤ 17) → lV d 1 S P) (ho : ∀ M, M < 5 → m = Int32.ofNat M → 0 ≤ k → k ≤ 50 → 0 ≤ b → b ≤ 17 → lV (dset (dset d 7 M k) 8 M b) 0 S P) : Y_L_power 3 18 [xv_r 0 0, xv_i m, xv_i k, xv_i b] S P := by
  obtain ⟨q, s, cp, ls, hR, -⟩ := id hK
  refine x_go.run mn_L_power 8 ?_
  exact ⟨nl rfl, ⟨_, hR.1⟩, rfl, nl rfl, 3, 18, nl rfl, nl rfl, c_power hK (fun h S' nx k f hx => ⟨11, [], 10, hx, nl rfl, rfl, hb h S' k f⟩) fun M hM e1 e2 e3 e4 e5 S' k f => ho M hM e1 e2 e3 e4 e5 S' k f⟩
theorem l_cancel {m : Int32} {n : Nat} (hK : KS d S) (hro : ro S) (hi : Inv n d) (hn : n ≤ 512) (h5 : (d.2 5).length ≤ 3000) (hb : ¬ (0 ≤ m ∧ m ≤ 3) → lV d 1 S P) (ho : ∀ M, M < 4 → m = Int32.ofNat M → lV (dcancel d M).1 (dcancel d M).2 S P) : Y_L_cancel 8 7000 [xv_r 0 0, xv_i m] S P := by
  obtain ⟨q, s, cp, ls, hR, -⟩ := id hK
  refine x_go.run mn_L_cancel 8 ?_
  refine ⟨nl rfl, ⟨_, hR.1⟩, rfl, nl rfl, 8, 7000, nl rfl, nl rfl, c_cancel hK hro hi hn h5 (fun h S' nx k f hx => ⟨11, [], 8, hx, nl rfl, rfl, hb h S' k f⟩) fun M hM e => ⟨fun z S' nx k f hx => ⟨12, [], 11, hx, nl rfl, rfl, ?_⟩, fun z S' nx k f hx => ⟨14, [], 14, hx, nl rfl, rfl, ?_⟩, fun z S' k f => ?_⟩⟩
  · have := ho M hM e S' k f
    rw [z] at this
    exact this
  · have := ho M hM e S' k f
    rw [z] at this
    exact this
  · have := ho M hM e S' k f
    rw [z] at this
    exact this
theorem l_pin {m p : Int32} (hK : KS d S) (hout : outA S) (hb : ¬ (0 ≤ m ∧ m ≤ 3) → lO d 1 0 S P) (ho : ∀ M, M < 4 → m = Int32.ofNat M → lO (dpin d M p).1 (dpin d M p).2.1 (dpin d M p).2.2 S P) : Y_L_pin 3 18 [xv_r 0 0, xv_i m, xv_i p, xv_r 30 0] S P := by
  obtain ⟨q, s, cp, ls, hR, -⟩ := id hK
  refine x_go.run mn_L_pin 14 ?_
  refine ⟨nl rfl, ⟨_, hR.1⟩, rfl, nl rfl, 3, 18, nl rfl, nl rfl, c_pin hK (fun h S' nx k f hx => ⟨11, [], 20, hx, nl rfl, rfl, (hb h).thr hout (by decide) k f⟩) fun M hM e => ⟨fun z S' nx k f hx => ⟨12, [], 24, hx, nl rfl, rfl, ?_⟩, fun z S' k f => ?_⟩⟩
  · have := ho M hM e
    rw [z] at this
    exact this.thr hout (by decide) k f
  · have := ho M hM e
    rw [z] at this
    obtain ⟨g, hg⟩ := hout.fc f
    have hv : (dpin d M p).2.2 = 0 ∨ (dpin d M p).2.2 = 1 := by
      unfold dpin
      split
      · split
        · exact Or.inr rfl
        · exact Or.inl rfl
      · exact Or.inl rfl
    rcases hv with hv | hv
    · rw [hv] at this ⊢
      refine ⟨fun _ => ?_, fun c => (c rfl).elim⟩
      exact ⟨_, _, hg, nl rfl, z_in (k := 0) (by decide) (by decide), this.out k f⟩
    · rw [hv] at this ⊢
      refine ⟨fun c => absurd c (by decide), fun _ => ?_⟩
      exact ⟨_, _, hg, nl rfl, z_in (k := 0) (by decide) (by decide), this.out k f⟩
end DE
