section DF
variable {S : XH} {P : XP} {d : DS}
theorem l_ask {n : Nat} {m v : Int32} (hK : KS d S) (hro : ro S) (hi : Inv n d) (hn : n ≤ 512) (h5 : (d.2 5).length ≤ 3000) (hout : outA S) (hb : ¬ (0 ≤ m ∧ m ≤ 3 ∧ 5 ≤ v ∧ v ≤ 1000) → lO d 1 0 S P) (ho : ∀ M V, M < 4 → 5 ≤ V → V ≤ 1000 → m = Int32.ofNat M → v = Int32.ofNat V → lO (dask d M V).1 (dask d M V).2.1 (dask d M V).2.2 S P) : Y_L_ask 8 7000 [xv_r 0 0, xv_i m, xv_i v, xv_r 30 0] S P := by
  obtain ⟨q, s, cp, ls, hR, -⟩ := id hK
  refine x_go.run mn_L_ask 14 ?_
  refine ⟨nl rfl, ⟨_, hR.1⟩, rfl, nl rfl, 8, 7000, Nat.le_refl _, Nat.le_refl _, c_ask hK hro hi hn h5 (fun h S' nx k f hx => ⟨11, [], 13, hx, nl rfl, rfl, (hb h).thr hout (by decide) k f⟩) fun M V hM hV hV2 e1 e2 => ⟨fun z S' nx k f hx => ⟨12, [], 17, hx, nl rfl, rfl, ?_⟩, fun z S' nx k f hx => ⟨13, [], 21, hx, nl rfl, rfl, ?_⟩, fun z S' nx k f hx => ⟨14, [], 25, hx, nl rfl, rfl, ?_⟩, fun z S' k f => ?_⟩⟩
  · have := ho M V hM hV hV2 e1 e2
    rw [z] at this
    exact this.thr hout (by decide) k f
  · have := ho M V hM hV hV2 e1 e2
    rw [z] at this
    exact this.thr hout (by decide) k f
  · have := ho M V hM hV hV2 e1 e2
    rw [z] at this
    exact this.thr hout (by decide) k f
  · have := ho M V hM hV hV2 e1 e2
    rw [z] at this
    obtain ⟨g, hg⟩ := hout.fc f
    exact ⟨_, _, hg, nl rfl, z_in (k := 0) (by decide) (by decide), this.out k f⟩

theorem l_settle {m : Int32} (hK : KS d S) (hro : ro S) (h5 : (d.2 5).length ≤ 3000) (hout : outA S) (hb : ¬ (0 ≤ m ∧ m ≤ 3) → lO d 1 0 S P) (ho : ∀ M, M < 4 → m = Int32.ofNat M → lO (dsettle d M).1 (dsettle d M).2.1 (dsettle d M).2.2 S P) : Y_L_settle 8 7000 [xv_r 0 0, xv_i m, xv_r 30 0] S P := by
  obtain ⟨q, s, cp, ls, hR, -⟩ := id hK
  refine x_go.run mn_L_settle 14 ?_
  refine ⟨nl rfl, ⟨_, hR.1⟩, rfl, nl rfl, 8, 7000, Nat.le_refl _, Nat.le_refl _, c_settle hK hro h5 (fun h S' nx k f hx => ⟨11, [], 12, hx, nl rfl, rfl, (hb h).thr hout (by decide) k f⟩) fun M hM e => ⟨fun z S' nx k f hx => ⟨12, [], 15, hx, nl rfl, rfl, ?_⟩, fun z S' k f => ?_⟩⟩
  · have := ho M hM e
    rw [z] at this
    exact this.thr hout (by decide) k f
  · have := ho M hM e
    rw [z] at this
    obtain ⟨g, hg⟩ := hout.fc f
    exact ⟨_, _, hg, nl rfl, z_in (k := 0) (by decide) (by decide), this.out k f⟩

theorem l_again {m : Int32} {mc ms : Nat} (hK : KS d S) (hro : ro S) (h5 : (d.2 5).length ≤ 3000) (hmc : ∀ M, M < 4 → m = Int32.ofNat M → 2 + (nK ((dagS M d (voidsOf (d.2 M) (Int32.ofNat M))).2 5).length - nK (d.2 5).length) ≤ mc) (hms : ∀ M, M < 4 → m = Int32.ofNat M → 12 + (nS ((dagS M d (voidsOf (d.2 M) (Int32.ofNat M))).2 5).length - nS (d.2 5).length) ≤ ms) (hmc' : 2 ≤ mc) (hms' : 12 ≤ ms) (hout : outA S) (hb : ¬ (0 ≤ m ∧ m ≤ 3) → lO d 1 0 S P) (ho : ∀ M, M < 4 → m = Int32.ofNat M → lO (dagain d M).1 (dagain d M).2.1 (dagain d M).2.2 S P) : Y_L_again mc ms [xv_r 0 0, xv_i m, xv_r 30 0] S P := by
  obtain ⟨q, s, cp, ls, hR, -⟩ := id hK
  refine x_go.run mn_L_again 14 ?_
  refine ⟨nl rfl, ⟨_, hR.1⟩, rfl, nl rfl, mc, ms, Nat.le_refl _, Nat.le_refl _, c_again hK hro h5 hmc hms hmc' hms' (fun h S' nx k f hx => ⟨11, [], 12, hx, nl rfl, rfl, (hb h).thr hout (by decide) k f⟩) fun M hM e => ⟨fun z S' nx k f hx => ⟨12, [], 15, hx, nl rfl, rfl, ?_⟩, fun z S' k f => ?_⟩⟩
  · have := ho M hM e
    rw [z] at this
    exact this.thr hout (by decide) k f
  · have := ho M hM e
    rw [z] at this
    obtain ⟨g, hg⟩ := hout.fc f
    exact ⟨_, _, hg, nl rfl, z_in (k := 0) (by decide) (by decide), this.out k f⟩

theorem l_deliver {n : Nat} {k : Int32} (hK : KS d S) (hro : ro S) (hi : Inv n d) (hn : n ≤ 512) (h5 : (d.2 5).length ≤ 3000) (hout : outA S) (hb : ¬ (0 ≤ k ∧ k < Int32.ofNat (d.2 5).length) → lO d 1 0 S P) (ho : ∀ K M (hK : K < (d.2 5).length), M < 4 → (d.2 5)[K].2.1 = Int32.ofNat M → k = Int32.ofNat K → lO (ddeliver d M (d.2 5)[K]).1 (ddeliver d M (d.2 5)[K]).2.1 (ddeliver d M (d.2 5)[K]).2.2 S P) : Y_L_deliver 13 10265 [xv_r 0 0, xv_i k, xv_r 30 0] S P := by
  obtain ⟨q, s, cp, ls, hR, -⟩ := id hK
  refine x_go.run mn_L_deliver 14 ?_
  refine ⟨nl rfl, ⟨_, hR.1⟩, rfl, nl rfl, 13, 10265, Nat.le_refl _, Nat.le_refl _, c_deliver hK hro hi hn h5 (fun h S' nx k f hx => ⟨15, [], 12, hx, nl rfl, rfl, (hb h).thr hout (by decide) k f⟩) fun K M hk hM e1 e2 => ⟨fun z S' nx k f hx => ⟨14, [], 15, hx, nl rfl, rfl, ?_⟩, fun z S' k f => ?_⟩⟩
  · have := ho K M hk hM e1 e2
    rw [z] at this
    exact this.thr hout (by decide) k f
  · have := ho K M hk hM e1 e2
    rw [z] at this
    obtain ⟨g, hg⟩ := hout.fc f
    exact ⟨_, _, hg, nl rfl, z_in (k := 0) (by decide) (by decide), this.out k f⟩

theorem l_load {m c n : Int32} (hK : KS d S) (hout : outA S) (hb : ¬ (0 ≤ m ∧ m ≤ 3 ∧ 0 ≤ c ∧ c ≤ 3 ∧ 1 ≤ n ∧ n ≤ 100) → lO d 1 0 S P) (ho : ∀ M C, M < 4 → C < 4 → m = Int32.ofNat M → c = Int32.ofNat C → 1 ≤ n → n ≤ 100 → lO (dload d M C n).1 (dload d M C n).2.1 (dload d M C n).2.2 S P) : Y_L_load 3 18 [xv_r 0 0, xv_i m, xv_i c, xv_i n, xv_r 30 0] S P := by
  obtain ⟨q, s, cp, ls, hR, -⟩ := id hK
  refine x_go.run mn_L_load 14 ?_
  refine ⟨nl rfl, ⟨_, hR.1⟩, rfl, nl rfl, 3, 18, Nat.le_refl _, Nat.le_refl _, c_load hK (fun h S' nx k f hx => ⟨11, [], 15, hx, nl rfl, rfl, (hb h).thr hout (by decide) k f⟩) fun M C hM hC e1 e2 e3 e4 => ⟨fun z S' nx k f hx => ⟨12, [], 19, hx, nl rfl, rfl, ?_⟩, fun z S' k f => ?_⟩⟩
  · have := ho M C hM hC e1 e2 e3 e4
    rw [z] at this
    exact this.thr hout (by decide) k f
  · have := ho M C hM hC e1 e2 e3 e4
    rw [z] at this
    obtain ⟨g, hg⟩ := hout.fc f
    exact ⟨_, _, hg, nl rfl, z_in (k := 0) (by decide) (by decide), this.out k f⟩

theorem l_on {n : Nat} {w : Int32} (hK : KS d S) (hro : ro S) (hi : Inv n d) (hn : n ≤ 512) (h5 : (d.2 5).length ≤ 3000) (hout : outA S) (hb : ¬ (0 ≤ w ∧ w ≤ 4) → lO d 1 0 S P) (ho : ∀ M, M < 5 → w = Int32.ofNat M → lO (don d M).1 (don d M).2.1 (don d M).2.2 S P) : Y_L_on 810 11803 [xv_r 0 0, xv_i w, xv_r 30 0] S P := by
  obtain ⟨q, s, cp, ls, hR, -⟩ := id hK
  refine x_go.run mn_L_on 14 ?_
  refine ⟨nl rfl, ⟨_, hR.1⟩, rfl, nl rfl, 810, 11803, Nat.le_refl _, Nat.le_refl _, c_on hK hro hi hn h5 (fun h S' nx k f hx => ⟨11, [], 12, hx, nl rfl, rfl, (hb h).thr hout (by decide) k f⟩) fun M hM e => ⟨fun z S' nx k f hx => ⟨14, [], 15, hx, nl rfl, rfl, ?_⟩, fun z S' k f => ?_⟩⟩
  · have := ho M hM e
    rw [z] at this
    exact this.thr hout (by decide) k f
  · have := ho M hM e
    rw [z] at this
    obtain ⟨g, hg⟩ := hout.fc f
    exact ⟨_, _, hg, nl rfl, z_in (k := 0) (by decide) (by decide), this.out k f⟩

theorem l_told {m c : Int32} (hK : KS d S) (hro : ro S) (hout : outA S) (hb : ¬ (0 ≤ m ∧ m ≤ 3 ∧ 0 ≤ c ∧ c ≤ 10) → lO d 1 0 S P) (ho : ∀ M C, M < 4 → C ≤ 10 → m = Int32.ofNat M → c = Int32.ofNat C → lO d 0 (dtold d M C) S P) : Y_L_told 3 18 [xv_r 0 0, xv_i m, xv_i c, xv_r 30 0] S P := by
  obtain ⟨q, s, cp, ls, hR, -⟩ := id hK
  refine x_go.run mn_L_told 14 ?_
  refine ⟨nl rfl, ⟨_, hR.1⟩, rfl, nl rfl, 3, 18, Nat.le_refl _, Nat.le_refl _, c_told hK hro (fun h S' nx k f hx => ⟨11, [], 13, hx, nl rfl, rfl, (hb h).thr hout (by decide) k f⟩) fun M C hM hC e1 e2 => fun S' k f => ?_⟩
  · have := ho M C hM hC e1 e2
    obtain ⟨g, hg⟩ := hout.fc f
    exact ⟨_, _, hg, nl rfl, z_in (k := 0) (by decide) (by decide), this.out k f⟩

theorem l_balance {a : Int32} (hK : KS d S) (hi : Bok (d.2 4)) (hout : outA S) (hb : ¬ (0 ≤ a ∧ a ≤ 199) → lO d 1 0 S P) (ho : ∀ A, A < 200 → a = Int32.ofNat A → lO d 0 (worthOf (d.2 4) (Int32.ofNat A)) S P) : Y_L_balance 3 18 [xv_r 0 0, xv_i a, xv_r 30 0] S P := by
  obtain ⟨q, s, cp, ls, hR, -⟩ := id hK
  refine x_go.run mn_L_balance 14 ?_
  refine ⟨nl rfl, ⟨_, hR.1⟩, rfl, nl rfl, 3, 18, Nat.le_refl _, Nat.le_refl _, c_balance hK hi (fun h S' nx k f hx => ⟨11, [], 12, hx, nl rfl, rfl, (hb h).thr hout (by decide) k f⟩) fun A hA e => fun S' k f => ?_⟩
  · have := ho A hA e
    obtain ⟨g, hg⟩ := hout.fc f
    exact ⟨_, _, hg, nl rfl, z_in (k := 0) (by decide) (by decide), this.out k f⟩

theorem l_taken {a : Int32} (hK : KS d S) (hout : outA S) (hb : ¬ (0 ≤ a ∧ a ≤ 199) → lO d 1 0 S P) (ho : ∀ A, A < 200 → a = Int32.ofNat A → lO d 0 (d.1 18 A) S P) : Y_L_taken 3 18 [xv_r 0 0, xv_i a, xv_r 30 0] S P := by
  obtain ⟨q, s, cp, ls, hR, -⟩ := id hK
  refine x_go.run mn_L_taken 14 ?_
  refine ⟨nl rfl, ⟨_, hR.1⟩, rfl, nl rfl, 3, 18, Nat.le_refl _, Nat.le_refl _, c_taken hK (fun h S' nx k f hx => ⟨11, [], 12, hx, nl rfl, rfl, (hb h).thr hout (by decide) k f⟩) fun A hA e => fun S' k f => ?_⟩
  · have := ho A hA e
    obtain ⟨g, hg⟩ := hout.fc f
    exact ⟨_, _, hg, nl rfl, z_in (k := 0) (by decide) (by decide), this.out k f⟩

theorem l_mix {m v c : Int32} (hK : KS d S) (hn : ∀ M, M < 4 → ntok (d.1 13) M) (hout : outA S) (hb : ¬ (0 ≤ m ∧ m ≤ 3 ∧ 0 ≤ v ∧ v ≤ 1000 ∧ 0 ≤ c ∧ c ≤ 3) → lO d 1 0 S P) (ho : ∀ M V C, M < 4 → V ≤ 1000 → C < 4 → m = Int32.ofNat M → v = Int32.ofNat V → c = Int32.ofNat C → lO d 0 (dmixv d M V C) S P) : Y_L_mix 3 18 [xv_r 0 0, xv_i m, xv_i v, xv_i c, xv_r 30 0] S P := by
  obtain ⟨q, s, cp, ls, hR, -⟩ := id hK
  refine x_go.run mn_L_mix 14 ?_
  refine ⟨nl rfl, ⟨_, hR.1⟩, rfl, nl rfl, 3, 18, Nat.le_refl _, Nat.le_refl _, c_mix hK hn (fun h S' nx k f hx => ⟨11, [], 15, hx, nl rfl, rfl, (hb h).thr hout (by decide) k f⟩) fun M V C hM hV hC e1 e2 e3 => fun S' k f => ?_⟩
  · have := ho M V C hM hV hC e1 e2 e3
    obtain ⟨g, hg⟩ := hout.fc f
    exact ⟨_, _, hg, nl rfl, z_in (k := 0) (by decide) (by decide), this.out k f⟩

theorem l_count {n : Nat} {c : Int32} (hK : KS d S) (hi : Iv n d) (hn : n ≤ 600) (hout : outA S) (hb : ¬ (0 ≤ c ∧ c ≤ 6) → lO d 1 0 S P) (ho : ∀ C, C ≤ 6 → c = Int32.ofNat C → lO d 0 (dcount d C) S P) : Y_L_count 3 18 [xv_r 0 0, xv_i c, xv_r 30 0] S P := by
  obtain ⟨q, s, cp, ls, hR, -⟩ := id hK
  refine x_go.run mn_L_count 14 ?_
  refine ⟨nl rfl, ⟨_, hR.1⟩, rfl, nl rfl, 3, 18, Nat.le_refl _, Nat.le_refl _, c_count hK hi hn (fun h S' nx k f hx => ⟨11, [], 12, hx, nl rfl, rfl, (hb h).thr hout (by decide) k f⟩) fun C hC e => fun S' k f => ?_⟩
  · have := ho C hC e
    obtain ⟨g, hg⟩ := hout.fc f
    exact ⟨_, _, hg, nl rfl, z_in (k := 0) (by decide) (by decide), this.out k f⟩

end DF
