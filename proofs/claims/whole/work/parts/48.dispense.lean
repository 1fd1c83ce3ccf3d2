/-! what comes out: of the MIX x, at most j notes, fifties first -/
def outs (x : Q4) (j : Nat) : Q4 := (min x.1 (j - min x.2.2.2 j - min x.2.2.1 (j - min x.2.2.2 j) - min x.2.1 (j - min x.2.2.2 j - min x.2.2.1 (j - min x.2.2.2 j))), min x.2.1 (j - min x.2.2.2 j - min x.2.2.1 (j - min x.2.2.2 j)), min x.2.2.1 (j - min x.2.2.2 j), min x.2.2.2 j)
def wsum (o : Q4) : Nat := 50 * o.2.2.2 + 20 * o.2.2.1 + 10 * o.2.1 + 5 * o.1
def ntake (f : Nat → Int32) (m : Nat) (o : Q4) : Nat → Int32 :=
  upd (upd (upd (upd f (4 * m + 3) (f (4 * m + 3) - Int32.ofNat o.2.2.2)) (4 * m + 2) (f (4 * m + 2) - Int32.ofNat o.2.2.1)) (4 * m + 1) (f (4 * m + 1) - Int32.ofNat o.2.1)) (4 * m) (f (4 * m) - Int32.ofNat o.1)
def dfun (d : DS) (n : Nat) (f : Nat → Int32) : DS := (gs d.1 n f, d.2)
def jamN (d : DS) (m : Nat) : Nat := (d.1 17 m).toNatClampNeg
def dvalue (d : DS) (m : Nat) (x : Q4) : Int32 := Int32.ofNat (wsum (outs x (jamN d m)))
def ddisp1 (d : DS) (m : Nat) (t : Int32) (x : Q4) (acc : Nat) : DS :=
  dfun (dfun (dfun (dfun (dfun (dfun d 13 (ntake (d.1 13) m (outs x (jamN d m)))) 17 (upd (d.1 17) m 41)) 14 (upd (d.1 14) m t)) 15 (upd (d.1 15) m (dvalue d m x))) 16 (upd (d.1 16) m (d.1 16 m + dvalue d m x))) 18 (upd (d.1 18) acc (d.1 18 acc + dvalue d m x))
def ddisp (d : DS) (m : Nat) (t : Int32) (x : Q4) (acc : Nat) : DS := if d.1 14 m = t then d else ddisp1 d m t x acc
theorem MD.fun {d : DS} {g : Nat → Nat → Int32} (h : MD d g) {n : Nat} (hn : dtag n = true) (f : Nat → Int32) : MD (dfun d n f) (gs g n f) := by
  obtain ⟨h1, h2, h3, h4⟩ := h
  have hb : 7 ≤ n ∧ n ≤ 18 ∧ n ≠ 9 := by
    simp [dtag] at hn
    omega
  refine ⟨fun k hk => ?_, ?_, fun w hw => (h3 w hw).keep fun k hk => gs_ne (by omega), h4.keep fun k hk hk' => gs_ne (by omega)⟩
  · show gs g n _ k = gs d.1 n _ k
    by_cases e : k = n
    · subst e
      rw [gs_self, gs_self]
    · rw [gs_ne e, gs_ne e]
      exact h1 k hk
  · show gs g n _ 9 0 = gs d.1 n _ 9 0
    rw [gs_ne (by omega), gs_ne (by omega)]
    exact h2
theorem upd_upd (f : Nat → Int32) (k : Nat) (x y : Int32) : upd (upd f k x) k y = upd f k y := by
  funext j
  unfold upd
  split <;> rfl
theorem upd_id (f : Nat → Int32) (k : Nat) : upd f k (f k) = f := by
  funext j
  unfold upd
  split
  · next e => rw [e]
  · rfl
theorem gs_gs (g : Nat → Nat → Int32) (n : Nat) (f f' : Nat → Int32) : gs (gs g n f) n f' = gs g n f' := by
  funext k
  unfold gs
  split <;> rfl
theorem gs_id (g : Nat → Nat → Int32) (n : Nat) : gs g n (g n) = g := by
  funext k
  unfold gs
  split
  · next e => rw [e]
  · rfl
/-- while notes come out -/
def Mn (g : Nat → Nat → Int32) (S : XH) (f : Nat → Int32) (S1 : XH) : Prop := RM (gs g 13 f) S1 ∧ fm S S1 ∧ S1 19 = S 19
theorem Mn.ast {g : Nat → Nat → Int32} {S S1 : XH} {f : Nat → Int32} (h : Mn g S f S1) (f' : Nat → Int32) : Mn g S f' (x_up S1 16 13 (.inr (0, ml 13, .inl f'))) := by
  refine ⟨?_, h.2.1.up (by decide) (by decide), by rw [x_up_k (by decide)]; exact h.2.2⟩
  have := h.1.ast (n := 13) rfl f'
  rw [gs_gs] at this
  exact this
def bw (c : Nat) : Nat := if c = 0 then 5 else if c = 1 then 10 else if c = 2 then 20 else 50
theorem bw_w {c : Nat} (h : c < 4) : st_wth c = Int32.ofNat (bw c) := by
  rcases (show c = 0 ∨ c = 1 ∨ c = 2 ∨ c = 3 by omega) with rfl | rfl | rfl | rfl <;> rfl
set_option maxHeartbeats 4000000 in
theorem r_dispense {d : DS} {g : Nat → Nat → Int32} {S : XH} {P : XP} {m j : Nat} {t : Int32} {x : Q4} {e : R6} {acc : Nat} (hR : RM g S) (hD : MD d g) (hm : m < 4) (hb : bst g x) (hx : q4t x ≤ 40) (hj : j ≤ 41) (hjam : d.1 17 m = Int32.ofNat j) (hW : S 53 1 = some (.inr (0, 4, .inl st_wth)))
    (he : fR (d.2 m) 1 (Int32.ofNat m) t = some e) (hacc : e.2.2.2.1 = Int32.ofNat acc) (ha : acc < 200)
    (h : mN (ddisp d m t x acc) g S (fun S' => P (.inl none) S')) : Y_R_dispense 0 0 [xv_r 15 0, xv_i (Int32.ofNat m), xv_i t] S P := by
  have e14 : g 14 = d.1 14 := hD.1 14 rfl
  have e17 : g 17 = d.1 17 := hD.1 17 rfl
  have e13 : g 13 = d.1 13 := hD.1 13 rfl
  have hjn : jamN d m = j := by
    unfold jamN
    rw [hjam, z_nat (by omega)]
  unfold q4t at hx
  have hbc : ∀ c, c < 4 → ∃ n : Nat, g 27 c = Int32.ofNat n ∧ n ≤ 40 := by
    intro c hc
    obtain ⟨b0, b1, b2, b3⟩ := hb
    rcases (show c = 0 ∨ c = 1 ∨ c = 2 ∨ c = 3 by omega) with rfl | rfl | rfl | rfl
    · exact ⟨_, b0, by omega⟩
    · exact ⟨_, b1, by omega⟩
    · exact ⟨_, b2, by omega⟩
    · exact ⟨_, b3, by omega⟩
  have step : ∀ (c n M V : Nat) (f : Nat → Int32) (S1 : XH) (j6 : Option XV), c < 4 → g 27 c = Int32.ofNat n → n ≤ 40 → M ≤ j → V ≤ 10000 → Mn g S f S1 →
      (∀ (S2 : XH) (j6 : Option XV), Mn g S (upd f (4 * m + c) (f (4 * m + c) - Int32.ofNat (min n (j - M)))) S2 → x_go b_R_dispense P 19 [some (xv_r 15 0), some (xv_i (Int32.ofNat m)), some (xv_i t), some (xv_i (Int32.ofNat (M + min n (j - M)))), some (xv_i (Int32.ofNat (V + bw c * min n (j - M)))), some (xv_i (Int32.ofNat c - 1)), j6] [] S2 0 0) →
      x_go b_R_dispense P 19 [some (xv_r 15 0), some (xv_i (Int32.ofNat m)), some (xv_i t), some (xv_i (Int32.ofNat M)), some (xv_i (Int32.ofNat V)), some (xv_i (Int32.ofNat c)), j6] [] S1 0 0 := by
    intro c n M V f S1 j6 hc hn hn40 hM hV hMn hk
    have hi : ((4 : Int32) * Int32.ofNat m + Int32.ofNat c).toNatClampNeg = 4 * m + c := by rw [z_4m, z_nat (by omega)]
    have hin : vp_in ((4 : Int32) * Int32.ofNat m + Int32.ofNat c) (ml 13) := by rw [z_4m]; exact z_in (by show _ < 16; omega) (by decide)
    have hbw : bw c ≤ 50 := by
      unfold bw
      split
      · omega
      · split
        · omega
        · split <;> omega
    have inner : ∀ r k, n - k = r → k ≤ n → ∀ (S2 : XH), Mn g S (upd f (4 * m + c) (f (4 * m + c) - Int32.ofNat (min k (j - M)))) S2 →
        x_go b_R_dispense P 27 [some (xv_r 15 0), some (xv_i (Int32.ofNat m)), some (xv_i t), some (xv_i (Int32.ofNat (M + min k (j - M)))), some (xv_i (Int32.ofNat (V + bw c * min k (j - M)))), some (xv_i (Int32.ofNat c)), some (xv_i (Int32.ofNat k))] [] S2 0 0 := by
      intro r
      induction r with
      | zero =>
        intro k hr hkn S2 hM2
        have ek : k = n := by omega
        subst ek
        refine x_go.run mn_R_dispense 8 ?_
        refine ⟨nl rfl, _, _, hM2.1.1, rfl, ?_⟩
        refine ⟨_, _, hM2.1.2.1 27 rfl, z_in (by exact hc) (by decide), ?_⟩
        rw [z_nat (by omega), gs_ne (by decide), hn]
        refine ⟨fun _ => ?_, fun q => (q (Int32.le_refl _)).elim⟩
        have := hk S2 (some (xv_i (Int32.ofNat k))) hM2
        rw [← z_dec] at this
        exact this
      | succ r ih =>
        intro k hr hkn S2 hM2
        have hnx := ih (k + 1) (by omega) (by omega)
        rw [← z_suc k] at hnx
        refine x_go.run mn_R_dispense 40 ?_
        refine ⟨nl rfl, _, _, hM2.1.1, rfl, ?_⟩
        refine ⟨_, _, hM2.1.2.1 27 rfl, z_in (by exact hc) (by decide), ?_⟩
        rw [z_nat (by omega), gs_ne (by decide), hn]
        refine ⟨fun q => ?_, fun _ => ?_⟩
        · exfalso
          have := (z_le (by omega) (by omega)).mp q
          omega
        refine ⟨nl rfl, _, _, hM2.1.1, rfl, ?_⟩
        refine ⟨_, _, hM2.1.2.1 17 rfl, z_in (by exact hm) (by decide), ?_⟩
        rw [z_nat (by omega), gs_ne (by decide), e17, hjam]
        refine ⟨fun q => ?_, fun q => ?_⟩
        · have hne : M + min k (j - M) ≠ j := fun z => q (congrArg Int32.ofNat z)
          rw [show min (k + 1) (j - M) = min k (j - M) + 1 by omega, Nat.mul_add, ← Nat.add_assoc, ← Nat.add_assoc, Nat.mul_one] at hnx
          refine x_go.back mn_R_dispense (x_go.run mn_R_dispense 21 ?_)
          refine ⟨nl rfl, _, _, hM2.1.1, rfl, ?_⟩
          refine ⟨_, _, hM2.1.2.1 13 rfl, hin, ?_⟩
          rw [gs_self]
          refine ⟨_, _, hM2.1.2.1 13 rfl, nl rfl, hin, ?_⟩
          refine ⟨4, st_wth, (by rw [x_up_k (by decide), hM2.2.1 53 (by decide)]; exact hW), z_in (by exact hc) (by decide), ?_⟩
          rw [z_nat (by omega), hi, bw_w hc]
          have E : upd (upd f (4 * m + c) (f (4 * m + c) - Int32.ofNat (min k (j - M)))) (4 * m + c) (upd f (4 * m + c) (f (4 * m + c) - Int32.ofNat (min k (j - M))) (4 * m + c) - 1) = upd f (4 * m + c) (f (4 * m + c) - Int32.ofNat (min k (j - M) + 1)) := by
            rw [upd_upd, upd_self, ← z_suc, Int32.sub_sub]
          have := hnx _ (hM2.ast (upd f (4 * m + c) (f (4 * m + c) - Int32.ofNat (min k (j - M) + 1))))
          rw [← E, ← z_suc (M + min k (j - M)), ← z_add (V + bw c * min k (j - M))] at this
          exact this
        · have q := (z_eq (by omega) (by omega)).mp (Classical.not_not.mp q)
          rw [show min (k + 1) (j - M) = min k (j - M) by omega] at hnx
          exact x_go.back mn_R_dispense (x_go.run mn_R_dispense 3 (hnx S2 hM2))
    refine x_go.run mn_R_dispense 4 ?_
    refine ⟨fun q => (z_neg (by omega) q).elim, fun _ => ?_⟩
    have := inner n 0 (by omega) (by omega) S1 (by rw [Nat.zero_min, show Int32.ofNat 0 = 0 from rfl, Int32.sub_zero, upd_id]; exact hMn)
    rw [Nat.zero_min] at this
    exact this
  have last : ∀ (o : Q4) (S1 : XH) (j3 j6 : Option XV), o = outs x j → d.1 14 m ≠ t → Mn g S (ntake (g 13) m o) S1 →
      x_go b_R_dispense P 19 [some (xv_r 15 0), some (xv_i (Int32.ofNat m)), some (xv_i t), j3, some (xv_i (Int32.ofNat (wsum o))), some (xv_i (Int32.ofNat 0 - 1)), j6] [] S1 0 0 := by
    intro o S1 j3 j6 ho hne hM1
    obtain ⟨hR1, hf1, h19⟩ := hM1
    have hD1 : MD (dfun d 13 (ntake (g 13) m o)) (gs g 13 (ntake (g 13) m o)) := hD.fun rfl _
    have hval : dvalue d m x = Int32.ofNat (wsum o) := by
      unfold dvalue
      rw [hjn, ← ho]
    generalize Int32.ofNat (wsum o) = V at hval ⊢
    refine x_go.run mn_R_dispense 60 ?_
    refine ⟨fun _ => ?_, fun q => (q z_m1).elim⟩
    refine ⟨nl rfl, _, _, hR1.1, rfl, ?_⟩
    refine ⟨_, _, hR1.2.1 17 rfl, nl rfl, z_in (by exact hm) (by decide), ?_⟩
    rw [z_nat (by omega)]
    have hR2 := hR1.ast (n := 17) rfl (upd (g 17) m 41)
    have hD2 := hD1.fun (n := 17) rfl (upd (g 17) m 41)
    refine ⟨nl rfl, _, _, hR2.1, rfl, ?_⟩
    refine ⟨_, _, hR2.2.1 14 rfl, nl rfl, z_in (by exact hm) (by decide), ?_⟩
    rw [z_nat (by omega)]
    have hR3 := hR2.ast (n := 14) rfl (upd (g 14) m t)
    have hD3 := hD2.fun (n := 14) rfl (upd (g 14) m t)
    refine ⟨nl rfl, _, _, hR3.1, rfl, ?_⟩
    refine ⟨_, _, hR3.2.1 15 rfl, nl rfl, z_in (by exact hm) (by decide), ?_⟩
    rw [z_nat (by omega)]
    have hR4 := hR3.ast (n := 15) rfl (upd (g 15) m V)
    have hD4 := hD3.fun (n := 15) rfl (upd (g 15) m V)
    refine ⟨nl rfl, _, _, hR4.1, rfl, ?_⟩
    refine ⟨_, _, hR4.2.1 16 rfl, z_in (by exact hm) (by decide), ?_⟩
    refine ⟨_, _, hR4.2.1 16 rfl, nl rfl, z_in (by exact hm) (by decide), ?_⟩
    rw [z_nat (by omega)]
    have hR5 := hR4.ast (n := 16) rfl (upd (g 16) m (g 16 m + V))
    have hD5 := hD4.fun (n := 16) rfl (upd (g 16) m (g 16 m + V))
    refine ⟨nl rfl, _, _, hR5.1, rfl, ?_⟩
    refine ⟨nl rfl, _, _, hR5.1, rfl, ?_⟩
    refine ⟨nl rfl, ⟨_, hR5.1⟩, rfl, nl rfl, 0, 0, Nat.zero_le _, Nat.zero_le _, (r_find hR5 (by omega) (hD5.2.2.1 m (by omega)) ?_ ?_)⟩
    · intro hno
      obtain ⟨q1, q2⟩ := fR_some he
      obtain ⟨i, hi, rfl⟩ := List.mem_iff_getElem.mp q1
      exact (hno i hi q2).elim
    · intro i hi q1 q2
      have hcap := jcap_le (show m < 5 by omega) (hD.2.2.1 m (by omega)).2.1
      have hi' : i < (d.2 m).length := hi
      have hei : (d.2 m)[i] = e := by
        have := fR_first hi' q1 q2
        rw [he] at this
        exact (Option.some.inj this).symm
      refine ⟨_, _, hR5.2.1 3 rfl, z_in (by show _ < 8800; omega) (by decide), ?_⟩
      have hg3 : g 3 (1200 * m + i) = Int32.ofNat acc := by
        rw [(((hD.2.2.1 m (by omega)).2.2 i hi').2.2.2.1 (Or.inl q1.1)).1, hei, hacc]
      rw [z_nat (by omega), gs_ne (n := 16) (k := 3) (by decide), gs_ne (n := 15) (k := 3) (by decide), gs_ne (n := 14) (k := 3) (by decide), gs_ne (n := 17) (k := 3) (by decide), gs_ne (n := 13) (k := 3) (by decide), hg3]
      refine ⟨_, _, hR5.2.1 18 rfl, z_in (by exact ha) (by decide), ?_⟩
      refine ⟨_, _, hR5.2.1 18 rfl, nl rfl, z_in (by exact ha) (by decide), ?_⟩
      rw [z_nat (by omega)]
      have hR6 := hR5.ast (n := 18) rfl (upd (g 18) acc (g 18 acc + V))
      have hD6 := hD5.fun (n := 18) rfl (upd (g 18) acc (g 18 acc + V))
      refine h _ _ hR6 ?_ (fun k hk => ?_) ?_ ?_
      · unfold ddisp
        rw [if_neg hne]
        unfold ddisp1
        rw [hval, hjn, ← ho, ← e13, ← e17, ← e14, ← hD.1 15 rfl, ← hD.1 16 rfl, ← hD.1 18 rfl]
        exact hD6
      · rw [gs_ne (by omega), gs_ne (by omega), gs_ne (by omega), gs_ne (by omega), gs_ne (by omega), gs_ne (by omega)]
      · exact ((((hf1.up (by decide) (by decide)).up (by decide) (by decide)).up (by decide) (by decide)).up (by decide) (by decide)).up (by decide) (by decide)
      · rw [x_up_k (by decide), x_up_k (by decide), x_up_k (by decide), x_up_k (by decide), x_up_k (by decide)]
        exact h19
  refine x_go.run mn_R_dispense 12 ?_
  refine ⟨nl rfl, _, _, hR.1, rfl, ?_⟩
  refine ⟨_, _, hR.2.1 14 rfl, z_in (by exact hm) (by decide), ?_⟩
  rw [z_nat (by omega)]
  rw [e14]
  refine ⟨fun q => ?_, fun q => ?_⟩
  · have q14 : d.1 14 m ≠ t := q
    obtain ⟨b0, b1, b2, b3⟩ := hb
    refine step 3 _ 0 0 (g 13) S none (by decide) b3 (by omega) (by omega) (by omega) ⟨by rw [gs_id]; exact hR, fm.rf, rfl⟩ fun S3 k3 h3 => ?_
    obtain ⟨o3, ho3⟩ : ∃ o, o = min x.2.2.2 (j - 0) := ⟨_, rfl⟩
    rw [← ho3] at h3 ⊢
    rw [show bw 3 = 50 from rfl]
    refine step 2 _ _ _ _ S3 k3 (by decide) b2 (by omega) (by omega) (by omega) h3 fun S2 k2 h2 => ?_
    obtain ⟨o2, ho2⟩ : ∃ o, o = min x.2.2.1 (j - (0 + o3)) := ⟨_, rfl⟩
    rw [← ho2] at h2 ⊢
    rw [show bw 2 = 20 from rfl]
    refine step 1 _ _ _ _ S2 k2 (by decide) b1 (by omega) (by omega) (by omega) h2 fun S1 k1 h1 => ?_
    obtain ⟨o1, ho1⟩ : ∃ o, o = min x.2.1 (j - (0 + o3 + o2)) := ⟨_, rfl⟩
    rw [← ho1] at h1 ⊢
    rw [show bw 1 = 10 from rfl]
    refine step 0 _ _ _ _ S1 k1 (by decide) b0 (by omega) (by omega) (by omega) h1 fun S0 k0 h0 => ?_
    obtain ⟨o0, ho0⟩ : ∃ o, o = min x.1 (j - (0 + o3 + o2 + o1)) := ⟨_, rfl⟩
    rw [← ho0] at h0 ⊢
    rw [show bw 0 = 5 from rfl]
    have k := last (o0, o1, o2, o3) S0 (some (xv_i (Int32.ofNat (0 + o3 + o2 + o1 + o0)))) k0 ?_ q14 ?_
    · rw [show wsum (o0, o1, o2, o3) = 0 + 50 * o3 + 20 * o2 + 10 * o1 + 5 * o0 by unfold wsum; dsimp only; omega] at k
      exact k
    · unfold outs
      rw [show min x.2.2.2 j = o3 by omega]
      rw [show min x.2.2.1 (j - o3) = o2 by omega]
      rw [show min x.2.1 (j - o3 - o2) = o1 by omega]
      rw [show min x.1 (j - o3 - o2 - o1) = o0 by omega]
    · have e : ∀ a b : Nat, a ≠ b → ∀ (F : Nat → Int32) (X : Int32), upd F (4 * m + b) X (4 * m + a) = F (4 * m + a) := fun a b hab F X => upd_ne (by omega)
      rw [e 0 1 (by decide), e 0 2 (by decide), e 0 3 (by decide), e 1 2 (by decide), e 1 3 (by decide), e 2 3 (by decide)] at h0
      exact h0
  · have q14 : d.1 14 m = t := Classical.not_not.mp q
    exact h g S hR (by unfold ddisp; rw [if_pos q14]; exact hD) (fun _ _ => rfl) fm.rf rfl
