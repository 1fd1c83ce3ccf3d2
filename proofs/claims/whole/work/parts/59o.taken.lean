/-! what was taken, and the BALANCES: small numbers -/
def TKd (d d' : DS) : Prop := ∀ a, ∃ t, t ≤ 1000 ∧ d'.1 18 a = d.1 18 a + Int32.ofNat t
theorem TKd.eq {d d' : DS} (h : d'.1 18 = d.1 18) : TKd d d' := fun a => ⟨0, by decide, by rw [h]; exact (Int32.add_zero _).symm⟩
theorem dthen_18 {r : DS × Bool} {f : DS → DS × Bool} {d : DS} (h : r.1.1 18 = d.1 18) (hf : ∀ d', d'.1 18 = d.1 18 → (f d').1.1 18 = d.1 18) : (dthen r f).1.1 18 = d.1 18 := by
  rcases bcase r.2 with q | q
  · rw [dthen_t q]
    exact h
  · rw [dthen_f q]
    exact hf _ h
theorem drecB_18 (d : DS) (w : Nat) (e : R6) : (drecB d w e).1.1 18 = d.1 18 := drec_1 (by decide)
theorem drev_18 (d : DS) (m : Nat) (t v : Int32) : (drev d m t v).1.1 18 = d.1 18 := dthen_18 (drecB_18 _ _ _) fun d' h => by
  show (dsent _ _).1 18 = _
  rw [dsent_1]
  exact h
theorem dlate_18 (d : DS) (m : Nat) : (dlate d m).1.1 18 = d.1 18 := dthen_18 (drev_18 _ _ _ _) fun d' h => by
  show (dset _ _ _ _).1 18 = _
  rw [dset_nt (by decide)]
  exact h
theorem drest_18 (d : DS) (m : Nat) (t v : Int32) : (drest d m t v).1.1 18 = d.1 18 := by
  unfold drest
  split
  · exact drev_18 _ _ _ _
  · rfl
theorem dpaid_18 (d : DS) (m : Nat) (t v : Int32) : (dpaid d m t v).1.1 18 = d.1 18 := dthen_18 (drecB_18 _ _ _) fun d' h => by
  rw [drest_18]
  exact h
theorem ddisp_18 {d : DS} {m : Nat} {t : Int32} {x : Q4} {acc v : Nat} {n : Nat → Nat} (hx : Feas n v x) (hv : v ≤ 1000) : TKd d (ddisp d m t x acc) := by
  unfold ddisp
  split
  · exact TKd.eq rfl
  · intro a
    rw [(ddisp1_at d m t x acc).2.2.2.2.2.1]
    by_cases e : a = acc
    · subst e
      rw [upd_self]
      exact ⟨_, Nat.le_trans (wsum_le hx _) hv, rfl⟩
    · rw [upd_ne e]
      exact ⟨0, by decide, (Int32.add_zero _).symm⟩
theorem dpay_18 {d : DS} {m : Nat} {t : Int32} {x : Q4} {v : Nat} {n : Nat → Nat} (hx : Feas n v x) (hv : v ≤ 1000) : TKd d (dpay d m t x).1 := by
  unfold dpay
  rcases bcase (drecB d m (2, Int32.ofNat m, t, 0, pk x, 0)).2 with q | q
  · rw [dthen_t q]
    exact TKd.eq (drecB_18 _ _ _)
  · rw [dthen_f q]
    intro a
    obtain ⟨t', h1, h2⟩ := ddisp_18 (d := (drecB d m (2, Int32.ofNat m, t, 0, pk x, 0)).1) (m := m) (t := t) (acc := oacc (fR (d.2 m) 1 (Int32.ofNat m) t)) hx hv a
    refine ⟨t', h1, ?_⟩
    rw [drecB_18] at h2
    rw [← h2]
    refine congrFun (dthen_18 (dpaid_18 _ _ _ _) fun d' h => ?_) a
    show (dset _ _ _ _).1 18 = _
    rw [dset_nt (by decide)]
    exact h
def TK (n : Nat) (d : DS) : Prop := ∀ a, a < 200 → ∃ t, t ≤ 1000 * n ∧ d.1 18 a = Int32.ofNat t
theorem TK.d {n : Nat} {d d' : DS} (h : TK n d) (h' : TKd d d') : TK (n + 1) d' := by
  intro a ha
  obtain ⟨t, h1, h2⟩ := h a ha
  obtain ⟨t', h3, h4⟩ := h' a
  exact ⟨t + t', by omega, by rw [h4, h2, z_add]⟩
theorem TK.eq {n : Nat} {d d' : DS} (h : TK n d) (h' : d'.1 18 = d.1 18) : TK (n + 1) d' := h.d (TKd.eq h')
theorem dagS_18 (m : Nat) : ∀ (vs : List R6) (d : DS), (dagS m d vs).1 18 = d.1 18
  | [], _ => rfl
  | e :: vs, d => by
    show (dagS m (dsent d _) vs).1 18 = _
    rw [dagS_18 m vs, dsent_1]
theorem dansw_18 {n : Nat} {d : DS} (h : Inv n d) {m : Nat} {t ans : Int32} (hm : m < 4) (hn : n ≤ 600) : TKd d (dansw d m t ans).1 := by
  unfold dansw
  split
  · next q =>
    obtain ⟨q1, rfl⟩ := q
    obtain ⟨f, hl⟩ := (h.1 m hm).2.1 q1
    split
    · split
      · exact TKd.eq (dlate_18 _ _)
      · next x hx =>
        obtain ⟨v, v1, v2, v3⟩ := amt_ex (h.1 m hm).1.1 (by omega) f.1
        rw [v3, z_nat (by omega)] at hx
        exact dpay_18 (dmix_is hx).1 v2
    · refine TKd.eq (dthen_18 (drecB_18 _ _ _) fun d' h => ?_)
      show (dset _ _ _ _).1 18 = _
      rw [dset_nt (by decide)]
      exact h
  · exact TKd.eq rfl
theorem dbank_18 (d : DS) (e : R6) : (dbank d e).1.1 18 = d.1 18 := by
  have s : ∀ (d' : DS) (x : R6), d'.1 18 = d.1 18 → (dsent d' x).1 18 = d.1 18 := fun d' x h => by
    rw [dsent_1]
    exact h
  unfold dbank
  split
  · split
    · exact dthen_18 (drecB_18 _ _ _) fun d' h => s _ _ h
    · exact s _ _ rfl
  · split
    · split
      · exact dthen_18 (drecB_18 _ _ _) fun d' h => s _ _ h
      · exact s _ _ rfl
    · exact s _ _ rfl
theorem ddel_18 {n : Nat} {d : DS} (h : Inv n d) {m : Nat} {e : R6} (hm : m < 4) (hn : n ≤ 600) : TKd d (ddel d m e).1 := by
  unfold ddel
  split
  · split
    · exact TKd.eq rfl
    · exact TKd.eq (dbank_18 _ _)
  · split
    · exact TKd.eq rfl
    · unfold dmach
      split
      · exact dansw_18 h hm hn
      · split
        · exact TKd.eq (drecB_18 _ _ _)
        · exact TKd.eq rfl
theorem dwakes_18 (d : DS) (m : Nat) : (dwakes d m).1.1 18 = d.1 18 := by
  have s : (dset d 10 m 1).1 18 = d.1 18 := dset_nt (by decide)
  unfold dwakes
  split
  · exact s
  · split
    · rw [drev_18]
      exact s
    · split
      · rw [dpaid_18]
        exact s
      · split
        · rw [drest_18]
          exact s
        · exact s
/-- after n calls, all of it -/
def Iv (n : Nat) (d : DS) : Prop := Inv n d ∧ TK n d
theorem Iv.init : Iv 0 d0 := ⟨Inv.init, fun a _ => ⟨0, Nat.le_refl _, rfl⟩⟩
theorem Iv.suc {n : Nat} {d : DS} (h : Iv n d) : Iv (n + 1) d := ⟨h.1.suc, h.2.eq rfl⟩
theorem Iv.card {n : Nat} {d : DS} (h : Iv n d) {m a : Nat} (hm : m < 4) (ha : a < 200) : Iv (n + 1) (dcard d m a).1 := ⟨h.1.card hm ha, h.2.eq (by
  unfold dcard
  split
  · show (dset _ _ _ _).1 18 = _
    rw [dset_nt (by decide), dset_nt (by decide), dset_nt (by decide)]
  · rfl)⟩
theorem Iv.pin {n : Nat} {d : DS} (h : Iv n d) {m : Nat} {p : Int32} (hm : m < 4) : Iv (n + 1) (dpin d m p).1 := ⟨h.1.pin hm, h.2.eq (by
  unfold dpin
  split
  · split
    · exact dset_nt (by decide)
    · split
      · show (dset _ _ _ _).1 18 = _
        rw [dset_nt (by decide), dset_nt (by decide)]
      · exact dset_nt (by decide)
  · rfl)⟩
theorem Iv.ask {n : Nat} {d : DS} (h : Iv n d) {m v : Nat} (hm : m < 4) (hn : n ≤ 600) (hv : 5 ≤ v) (hv' : v ≤ 1000) : Iv (n + 1) (dask d m v).1 := ⟨h.1.ask hm hn hv hv', h.2.eq (by
  unfold dask
  split
  · split
    · split
      · exact drec_1 (by decide)
      · show (dsent _ _).1 18 = _
        rw [dsent_1, dset_nt (by decide)]
        exact drec_1 (by decide)
    · rfl
  · rfl)⟩
theorem Iv.cancel {n : Nat} {d : DS} (h : Iv n d) {m : Nat} (hm : m < 4) (hn : n ≤ 600) : Iv (n + 1) (dcancel d m).1 := ⟨h.1.cancel hm hn, h.2.eq (by
  unfold dcancel
  split
  · rfl
  · split
    · exact dlate_18 _ _
    · exact dset_nt (by decide))⟩
theorem Iv.again {n : Nat} {d : DS} (h : Iv n d) {m : Nat} (hm : m < 4) (hn : n ≤ 600) : Iv (n + 1) (dagain d m).1 := ⟨h.1.again hm hn, h.2.eq (by
  unfold dagain
  split
  · rfl
  · exact dagS_18 _ _ _)⟩
theorem Iv.settle {n : Nat} {d : DS} (h : Iv n d) {m : Nat} (hm : m < 4) (hn : n ≤ 600) : Iv (n + 1) (dsettle d m).1 := ⟨h.1.settle hm hn, h.2.eq (by
  unfold dsettle
  split
  · rfl
  · show (dsent _ _).1 18 = _
    rw [dsent_1])⟩
theorem Iv.deliver {n : Nat} {d : DS} (h : Iv n d) {m : Nat} {e : R6} (hm : m < 4) (he : okM e) (hn : n ≤ 600) : Iv (n + 1) (ddeliver d m e).1 := ⟨h.1.del hm he hn, h.2.d (ddel_18 h.1 hm hn)⟩
theorem Iv.jam {n : Nat} {d : DS} (h : Iv n d) {m j : Nat} (hm : m < 4) (hj : j ≤ 41) : Iv (n + 1) (dset d 17 m (Int32.ofNat j)) := ⟨h.1.jam hm hj, h.2.eq (dset_nt (by decide))⟩
theorem Iv.load {n : Nat} {d : DS} (h : Iv n d) {m c N : Nat} (hm : m < 4) (hc : c < 4) (hN : N ≤ 100) : Iv (n + 1) (dload d m c (Int32.ofNat N)).1 := ⟨h.1.load hm hc hN, h.2.eq (by
  unfold dload
  split
  · exact dset_nt (by decide)
  · rfl)⟩
theorem Iv.power {n : Nat} {d : DS} (h : Iv n d) {w b : Nat} {k : Int32} (hb : b ≤ 17) : Iv (n + 1) (dset (dset d 7 w k) 8 w (Int32.ofNat b)) := ⟨h.1.power hb, h.2.eq (by rw [dset_nt (by decide), dset_nt (by decide)])⟩
theorem Iv.on {n : Nat} {d : DS} (h : Iv n d) {w : Nat} (hw : w < 5) (hn : n ≤ 600) : Iv (n + 1) (don d w).1 := ⟨h.1.on hw hn, h.2.eq (by
  unfold don
  split
  · exact dset_nt (by decide)
  · exact dwakes_18 _ _)⟩
/-- a BALANCE is a small number -/
theorem Bok.small {l : List R6} (h : Bok l) (hl : l.length ≤ 100000) (a : Int32) : -(500 + 1000 * (l.length : Int)) ≤ (balC l a).toInt ∧ (balC l a).toInt ≤ 500 + 1000 * (l.length : Int) := by
  revert h hl
  refine Pok.ind (p := fun l => l.length ≤ 100000 → -(500 + 1000 * (l.length : Int)) ≤ (balC l a).toInt ∧ (balC l a).toInt ≤ 500 + 1000 * (l.length : Int)) (fun _ => (by decide : -(500 + 1000 * ((0 : Nat) : Int)) ≤ (500 : Int32).toInt ∧ (500 : Int32).toInt ≤ 500 + 1000 * ((0 : Nat) : Int))) (fun l e hl ih he hlen => ?_) l
  rw [List.length_append] at hlen ⊢
  change l.length + 1 ≤ _ at hlen
  obtain ⟨i1, i2⟩ := ih (by omega)
  have eb : balC (l ++ [e]) a = bstep a (balC l a) e := by
    unfold balC
    rw [List.foldl_append]
    rfl
  rw [eb]
  obtain ⟨v, v1, v2⟩ := he.2
  have ev : (Int32.ofNat v).toInt = (v : Int) := z_toInt (by omega)
  have lc : ((l.length + [e].length : Nat) : Int) = (l.length : Int) + 1 := by
    show ((l.length + 1 : Nat) : Int) = _
    omega
  rw [lc]
  unfold bstep
  split
  · split
    · rw [v2, z_iadd (a := (balC l a).toInt) rfl ev (by omega) (by omega)]
      omega
    · split
      · rw [v2, show balC l a + -Int32.ofNat v = balC l a - Int32.ofNat v from (Int32.sub_eq_add_neg _ _).symm, z_isub (a := (balC l a).toInt) rfl ev (by omega) (by omega)]
        omega
      · rw [Int32.add_zero]
        omega
  · omega
