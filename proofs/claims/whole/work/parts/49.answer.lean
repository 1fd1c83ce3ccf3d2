noncomputable def dmix (d : DS) (m v : Nat) : Option Q4 := @dite _ (∃ x, IsMix (nts (d.1 13) m) v x) (Classical.propDecidable _) (fun h => some h.choose) (fun _ => none)
theorem dmix_some {d : DS} {m v : Nat} {x : Q4} (h : IsMix (nts (d.1 13) m) v x) : dmix d m v = some x := by
  unfold dmix
  rw [dif_pos ⟨x, h⟩]
  exact congrArg some ((Exists.choose_spec (⟨x, h⟩ : ∃ x, IsMix (nts (d.1 13) m) v x)).uniq h)
theorem dmix_none {d : DS} {m v : Nat} (h : ∀ x, ¬ Feas (nts (d.1 13) m) v x) : dmix d m v = none := by
  unfold dmix
  rw [dif_neg]
  rintro ⟨x, hx⟩
  exact h x hx.1
theorem dmix_is {d : DS} {m v : Nat} {x : Q4} (h : dmix d m v = some x) : IsMix (nts (d.1 13) m) v x := by
  unfold dmix at h
  split at h
  · next hq =>
    rw [← Option.some.inj h]
    exact hq.choose_spec
  · cases h
def pk (x : Q4) : Int32 := Int32.ofNat (16777216 * x.2.2.2 + 65536 * x.2.2.1 + 256 * x.2.1 + x.1)
def oacc (o : Option R6) : Nat := match o with
  | some e => e.2.2.2.1.toNatClampNeg
  | none => 0
/-- the answer 0210 comes to machine m -/
noncomputable def dpay (d : DS) (m : Nat) (t : Int32) (x : Q4) : DS × Bool := dthen (drecB d m (2, Int32.ofNat m, t, 0, pk x, 0)) fun d1 => dthen (dpaid (ddisp d1 m t x (oacc (fR (d.2 m) 1 (Int32.ofNat m) t))) m t ((ddisp d1 m t x (oacc (fR (d.2 m) 1 (Int32.ofNat m) t))).1 15 m)) fun d => (dset d 10 m 1, false)
noncomputable def dansw (d : DS) (m : Nat) (t ans : Int32) : DS × Bool :=
  if d.1 10 m = 4 ∧ t = dlast d m then (if ans = 0 then (match dmix d m (amtOf (d.2 m) (Int32.ofNat m) t).toNatClampNeg with
    | none => dlate d m
    | some x => dpay d m t x)
    else dthen (drecB d m (5, Int32.ofNat m, t, 0, 0, 0)) fun d => (dset d 10 m 1, false)) else (d, false)
/-- what the state holds of a machine that waits -/
def Waits (d : DS) (m : Nat) : Prop := ∃ e v acc, fR (d.2 m) 1 (Int32.ofNat m) (dlast d m) = some e ∧ v ≤ 1000 ∧ e.2.2.2.2.1 = Int32.ofNat v ∧ acc < 200 ∧ e.2.2.2.1 = Int32.ofNat acc
theorem drec_1 {d : DS} {w : Nat} {e : R6} {n : Nat} (h : 11 ≤ n) : (drec d w e).1 n = d.1 n := by
  unfold drec doff
  split
  · split
    · show gs (gs (ite _ _ _ : DS).1 8 _) 9 _ n = _
      rw [gs_ne (by omega), gs_ne (by omega)]
      split <;> rfl
    · show gs (gs (ite _ _ _ : DS).1 8 _) 10 _ n = _
      rw [gs_ne (by omega), gs_ne (by omega)]
      split <;> rfl
  · show gs _ 7 _ n = _
    rw [gs_ne (by omega)]
    rfl
theorem ddisp_2 (d : DS) (m : Nat) (t : Int32) (x : Q4) (acc : Nat) : (ddisp d m t x acc).2 = d.2 := by
  unfold ddisp
  split <;> rfl
set_option maxHeartbeats 4000000 in
theorem r_answered {d : DS} {g : Nat → Nat → Int32} {S : XH} {P : XP} {m k j nx : Nat} {t ans : Int32} (hR : RM g S) (hD : MD d g) (hm : m < 4) (hk : k < (d.2 5).length) (ht : (d.2 5)[k].2.2.1 = t) (hans : (d.2 5)[k].2.2.2.2.2 = ans) (hn : ntok (d.1 13) m) (hj : j ≤ 41) (hjam : d.1 17 m = Int32.ofNat j) (hW : S 53 1 = some (.inr (0, 4, .inl st_wth)))
    (hwt : d.1 10 m = 4 → Waits d m) (hc : (d.2 m).length + 3 ≤ jcap m) (hx : S 19 nx = none)
    (h : mO (dansw d m t ans) g S nx P) : Y_R_answered 3 18 [xv_r 15 0, xv_i (Int32.ofNat m), xv_i (Int32.ofNat k)] S P := by
  have e10 : g 10 = d.1 10 := hD.1 10 rfl
  have hJ := hD.2.2.1 m (by omega)
  have hMk := hD.2.2.2.2.2 k hk
  have hM2 := hD.2.2.2.2.1
  unfold dansw at h
  refine x_go.run mn_R_answered 60 ?_
  refine ⟨nl rfl, _, _, hR.1, rfl, ?_⟩
  refine ⟨_, _, hR.2.1 22 rfl, z_in (by show _ < 3000; omega) (by decide), ?_⟩
  rw [z_nat (by omega)]
  rw [hMk.2.2.1, ht]
  refine ⟨nl rfl, _, _, hR.1, rfl, ?_⟩
  refine ⟨_, _, hR.2.1 10 rfl, z_in (by exact hm) (by decide), ?_⟩
  rw [z_nat (by omega)]
  rw [e10]
  refine ⟨fun q => ?_, fun q => ?_⟩
  · rw [if_neg (fun z => q z.1)] at h
    exact h.1 rfl g S hR hD (fun _ _ => rfl) fm.rf rfl
  have q4 : d.1 10 m = 4 := Classical.not_not.mp q
  refine ⟨nl rfl, ⟨_, hR.1⟩, rfl, nl rfl, 0, 0, Nat.zero_le _, Nat.zero_le _, (r_lastTrace hR (by omega) hJ ?_)⟩
  refine ⟨fun q => ?_, fun q => ?_⟩
  rotate_left
  · rw [if_neg (fun z => q z.2)] at h
    exact h.1 rfl g S hR hD (fun _ _ => rfl) fm.rf rfl
  have qt : t = dlast d m := q
  rw [if_pos ⟨q4, qt⟩] at h
  obtain ⟨e, v, acc, w1, w2, w3, w4, w5⟩ := hwt q4
  rw [← qt] at w1
  have hamt : amtOf (d.2 m) (Int32.ofNat m) t = Int32.ofNat v := by
    unfold amtOf
    rw [w1]
    exact w3
  refine ⟨nl rfl, _, _, hR.1, rfl, ?_⟩
  refine ⟨_, _, hR.2.1 23 rfl, z_in (by show _ < 3000; omega) (by decide), ?_⟩
  rw [z_nat (by omega)]
  rw [hMk.2.2.2.2.2, hans]
  refine ⟨fun qa => ?_, fun qa => ?_⟩
  · have qa : ans = 0 := qa
    rw [if_pos qa, hamt, z_nat (by omega)] at h
    refine ⟨nl rfl, ⟨_, hR.1⟩, rfl, nl rfl, 0, 0, Nat.zero_le _, Nat.zero_le _, (r_amt hR (by omega) hJ (by rw [w1]; exact fun z => by cases z) ?_)⟩
    rw [hamt]
    refine ⟨nl rfl, ⟨_, hR.1⟩, rfl, nl rfl, 0, 0, Nat.zero_le _, Nat.zero_le _, (r_mixed hR hD hm w2 hn ?_ ?_)⟩
    · intro x hx2 g1 S1 a1 a2 a3 a4 a5 a6
      rw [dmix_some hx2] at h
      have h : mO (dpay d m t x) g S nx P := h
      unfold dpay at h
      refine ⟨fun _ => ?_, fun q => (q (by decide)).elim⟩
      have cp : ∀ (c : Nat) (v9 : Option XV) (g1 : Nat → Nat → Int32) (S1 : XH), c < 4 → RM g1 S1 → (∀ f, RM (gs g1 28 f) (x_up S1 16 28 (.inr (0, ml 28, .inl f))) → x_go b_R_answered P 78 [some (xv_r 15 0), some (xv_i (Int32.ofNat m)), some (xv_i (Int32.ofNat k)), some (xv_i t), some (xv_i (Int32.ofNat c + 1))] [] (x_up S1 16 28 (.inr (0, ml 28, .inl f))) 3 18) →
          x_go b_R_answered P 78 [some (xv_r 15 0), some (xv_i (Int32.ofNat m)), some (xv_i (Int32.ofNat k)), some (xv_i t), some (xv_i (Int32.ofNat c))] [] S1 3 18 := by
        intro c v9 g1 S1 hc r1 hk
        refine x_go.run mn_R_answered 13 ?_
        refine ⟨fun q => ?_, fun _ => ?_⟩
        · exfalso
          have := (z_le (a := 4) (by decide) (by omega)).mp q
          omega
        refine ⟨nl rfl, _, _, r1.1, rfl, ?_⟩
        refine ⟨nl rfl, _, _, r1.1, rfl, ?_⟩
        refine ⟨_, _, r1.2.1 27 rfl, z_in (by exact hc) (by decide), ?_⟩
        refine ⟨_, _, r1.2.1 28 rfl, nl rfl, z_in (by exact hc) (by decide), ?_⟩
        exact hk _ (r1.ast rfl _)
      refine x_go.back mn_R_answered (x_go.run mn_R_answered 2 ?_)
      refine cp 0 none g1 S1 (by decide) a1 fun f1 r1 => ?_
      refine cp 1 none _ _ (by decide) r1 fun f2 r2 => ?_
      refine cp 2 none _ _ (by decide) r2 fun f3 r3 => ?_
      refine cp 3 none _ _ (by decide) r3 fun f4 r4 => ?_
      have g4 : ∀ k, k ≠ 28 → gs (gs (gs (gs g1 28 f1) 28 f2) 28 f3) 28 f4 k = g1 k := fun k hk => by rw [gs_ne hk, gs_ne hk, gs_ne hk, gs_ne hk]
      have d4 : MD d (gs (gs (gs (gs g1 28 f1) 28 f2) 28 f3) 28 f4) := (((a2.own (by decide) f1).own (by decide) f2).own (by decide) f3).own (by decide) f4
      have s4 : fm S1 _ := (((fm.rf (S := S1).up (k := 16) (i := 28) (c := .inr (0, ml 28, .inl f1)) (by decide) (by decide)).up (k := 16) (i := 28) (c := .inr (0, ml 28, .inl f2)) (by decide) (by decide)).up (k := 16) (i := 28) (c := .inr (0, ml 28, .inl f3)) (by decide) (by decide)).up (k := 16) (i := 28) (c := .inr (0, ml 28, .inl f4)) (by decide) (by decide)
      have n4 : (x_up (x_up (x_up (x_up S1 16 28 (.inr (0, ml 28, .inl f1))) 16 28 (.inr (0, ml 28, .inl f2))) 16 28 (.inr (0, ml 28, .inl f3))) 16 28 (.inr (0, ml 28, .inl f4))) 19 = S1 19 := by
        rw [x_up_k (by decide), x_up_k (by decide), x_up_k (by decide), x_up_k (by decide)]
      generalize gs (gs (gs (gs g1 28 f1) 28 f2) 28 f3) 28 f4 = gg at r4 g4 d4
      generalize x_up (x_up (x_up (x_up S1 16 28 (.inr (0, ml 28, .inl f1))) 16 28 (.inr (0, ml 28, .inl f2))) 16 28 (.inr (0, ml 28, .inl f3))) 16 28 (.inr (0, ml 28, .inl f4)) = SS at r4 s4 n4 ⊢
      have bb : bst gg x := by
        unfold bst
        rw [g4 27 (by decide)]
        exact a3
      have h := h.tr (g1 := gg) (S1 := SS) (fun k hk => (g4 k (by omega)).trans (a4 k (by omega))) (a5.tr s4) (n4.trans a6)
      refine x_go.run mn_R_answered 60 ?_
      refine ⟨fun _ => ?_, fun q => (q (by decide)).elim⟩
      refine ⟨nl rfl, _, _, r4.1, rfl, ?_⟩
      refine ⟨_, _, r4.2.1 28 rfl, z_in (k := 0) (by decide) (by decide), ?_⟩
      refine ⟨nl rfl, _, _, r4.1, rfl, ?_⟩
      refine ⟨_, _, r4.2.1 28 rfl, z_in (k := 1) (by decide) (by decide), ?_⟩
      refine ⟨nl rfl, _, _, r4.1, rfl, ?_⟩
      refine ⟨_, _, r4.2.1 28 rfl, z_in (k := 2) (by decide) (by decide), ?_⟩
      refine ⟨nl rfl, _, _, r4.1, rfl, ?_⟩
      refine ⟨_, _, r4.2.1 28 rfl, z_in (k := 3) (by decide) (by decide), ?_⟩
      refine ⟨nl rfl, ⟨_, r4.1⟩, rfl, nl rfl, 1, 6, nl rfl, nl rfl, r_record (e := (2, Int32.ofNat m, t, 0, pk x, 0)) r4 d4 (by omega) (by omega) (mrel_x (Or.inl rfl)) (by rw [n4, a6]; exact hx) (fun hf g5 S5 c1 c2 c3 c4 c5 => ?_) (fun hf g5 S5 c1 c2 c3 c4 c5 c6 => ?_)⟩
      · have hf : dfailsb d m = false := by
          have : ¬ dfailsb d m = true := fun q => hf (dfailsb_iff.mp q)
          simpa using this
        rw [dthen_f (r := drecB d m (2, Int32.ofNat m, t, 0, pk x, 0)) hf] at h
        have hl : (drec d m (2, Int32.ofNat m, t, 0, pk x, 0)).2 m = d.2 m ++ [(2, Int32.ofNat m, t, 0, pk x, 0)] := drec_ok _ _ _ hf
        have he1 : fR ((drec d m (2, Int32.ofNat m, t, 0, pk x, 0)).2 m) 1 (Int32.ofNat m) t = some e := by
          rw [hl, fR_app (by rw [w1]; exact fun z => by cases z)]
          exact w1
        have hoa : oacc (fR (d.2 m) 1 (Int32.ofNat m) t) = acc := by
          rw [w1]
          show e.2.2.2.1.toNatClampNeg = acc
          rw [w5, z_nat (by omega)]
        rw [hoa] at h
        have h : mO (dthen (dpaid (ddisp (drec d m (2, Int32.ofNat m, t, 0, pk x, 0)) m t x acc) m t ((ddisp (drec d m (2, Int32.ofNat m, t, 0, pk x, 0)) m t x acc).1 15 m)) fun d => (dset d 10 m 1, false)) gg SS nx P := h
        have hj1 : (drec d m (2, Int32.ofNat m, t, 0, pk x, 0)).1 17 m = Int32.ofNat j := by
          rw [drec_1 (by decide)]
          exact hjam
        have hx2' := hx2.1.2.2.2.2.2
        generalize hd1 : drec d m (2, Int32.ofNat m, t, 0, pk x, 0) = d1 at h c2 hl he1 hj1
        have b5 : bst g5 x := by
          unfold bst
          rw [c3 27 (by decide)]
          exact bb
        refine ⟨nl rfl, ⟨_, c1.1⟩, rfl, nl rfl, 0, 0, nl rfl, nl rfl, r_dispense c1 c2 hm b5 hx2' hj hj1 ?_ he1 w5 w4 fun g6 S6 i1 i2 i3 i4 i5 => ?_⟩
        · rw [c4 53 (by decide), s4 53 (by decide), a5 53 (by decide)]
          exact hW
        · refine ⟨nl rfl, _, _, i1.1, rfl, ?_⟩
          refine ⟨_, _, i1.2.1 15 rfl, z_in (by exact hm) (by decide), ?_⟩
          rw [z_nat (by omega), i2.1 15 rfl]
          have h := h.tr (g1 := g6) (S1 := S6) (fun k hk => (i3 k hk).trans (c3 k (by omega))) (c4.tr i4) (i5.trans c5)
          have hl6 : (ddisp d1 m t x acc).2 m = d1.2 m := by rw [ddisp_2]
          refine ⟨nl rfl, ⟨_, i1.1⟩, rfl, nl rfl, 2, 12, nl rfl, nl rfl, r_paid (nx := nx) i1 i2 (by omega) ?_ ?_ ?_ ⟨fun hf g7 S7 o1 o2 o3 o4 o5 => ?_, fun hf => ?_⟩⟩
          · rw [hl6, hl, List.length_append]
            show _ + 1 + 1 < _
            omega
          · rw [i5, c5, n4, a6]
            exact hx
          · rw [hl6, he1]
            exact fun z => by cases z
          · rw [dthen_f hf] at h
            refine ⟨nl rfl, _, _, o1.1, rfl, ?_⟩
            refine ⟨_, _, o1.2.1 10 rfl, nl rfl, z_in (by exact hm) (by decide), ?_⟩
            rw [z_nat (by omega)]
            exact h.1 rfl _ _ (o1.ast rfl _) (o2.set rfl m 1) (fun k hk => by rw [gs_ne (by omega)]; exact o3 k hk) (o4.up (by decide) (by decide)) (by rw [x_up_k (by decide)]; exact o5)
          · rw [dthen_t hf] at h
            exact h.2 hf
      · have hf : dfailsb d m = true := dfailsb_iff.mpr hf
        rw [dthen_t (r := drecB d m (2, Int32.ofNat m, t, 0, pk x, 0)) hf] at h
        exact h.2 hf g5 S5 c1 c2 (fun k hk => c3 k (by omega)) c4 c5 c6
    · intro hno g1 S1 a1 a2 a4 a5 a6
      rw [dmix_none hno] at h
      have h : mO (dlate d m) g S nx P := h
      refine ⟨fun q => (q rfl).elim, fun _ => ?_⟩
      refine ⟨nl rfl, ⟨_, a1.1⟩, rfl, nl rfl, 1, 6, nl rfl, nl rfl, r_late a1 a2 hm (by omega) (by rw [a6]; exact hx) (by rw [← qt, w1]; exact fun z => by cases z) ?_⟩
      have h' := h.tr (fun k hk => a4 k (by omega)) a5 a6
      exact ⟨fun q g' S' b1 b2 b3 b4 b5 => h'.1 q g' S' b1 b2 b3 b4 b5, fun q => h'.2 q⟩
  · have qa : ¬ ans = 0 := qa
    rw [if_neg qa] at h
    refine ⟨nl rfl, ⟨_, hR.1⟩, rfl, nl rfl, 1, 6, nl rfl, nl rfl, r_rec (e := (5, Int32.ofNat m, t, 0, 0, 0)) hR hD (by omega) (by omega) (mrel_x (Or.inr rfl)) hx ⟨fun hf g' S' a b c e i => ?_, fun hf => ?_⟩⟩
    · rw [dthen_f hf] at h
      refine ⟨nl rfl, _, _, a.1, rfl, ?_⟩
      refine ⟨_, _, a.2.1 10 rfl, nl rfl, z_in (by exact hm) (by decide), ?_⟩
      rw [z_nat (by omega)]
      exact h.1 rfl _ _ (a.ast rfl _) (b.set rfl m 1) (fun k hk => by rw [gs_ne (by omega)]; exact c k hk) (e.up (by decide) (by decide)) (by rw [x_up_k (by decide)]; exact i)
    · rw [dthen_t hf] at h
      exact h.2 hf
