def is6b (kind mach tr : Int32) (e : R6) : Bool := e.1 == kind && e.2.1 == mach && e.2.2.1 == tr
theorem is6b_iff {kind mach tr : Int32} {e : R6} : is6b kind mach tr e = true ↔ is6 kind mach tr e := by
  simp [is6b, is6, and_assoc]
/-- the first record of these -/
def fR (l : List R6) (kind mach tr : Int32) : Option R6 := l.find? (is6b kind mach tr)
theorem fR_first {l : List R6} {kind mach tr : Int32} {i : Nat} (hi : i < l.length) (h : is6 kind mach tr l[i]) (hn : ∀ j (hj : j < i), ¬ is6 kind mach tr l[j]) : fR l kind mach tr = some l[i] := by
  unfold fR
  rw [List.find?_eq_some_iff_getElem]
  refine ⟨is6b_iff.mpr h, i, hi, rfl, fun j hj => ?_⟩
  have := hn j hj
  rw [← is6b_iff] at this
  simpa using this
theorem fR_none {l : List R6} {kind mach tr : Int32} : fR l kind mach tr = none ↔ ∀ e ∈ l, ¬ is6 kind mach tr e := by
  unfold fR
  rw [List.find?_eq_none]
  exact ⟨fun h e he q => h e he (is6b_iff.mpr q), fun h e he q => h e he (is6b_iff.mp q)⟩
theorem fR_some {l : List R6} {kind mach tr : Int32} {e : R6} (h : fR l kind mach tr = some e) : e ∈ l ∧ is6 kind mach tr e := ⟨List.mem_of_find?_eq_some h, is6b_iff.mp (List.find?_some h)⟩
theorem fR_ex {l : List R6} {kind mach tr : Int32} (h : fR l kind mach tr ≠ none) : ∃ e ∈ l, is6 kind mach tr e := by
  cases hq : fR l kind mach tr with
  | none => exact (h hq).elim
  | some e => exact ⟨e, fR_some hq⟩
theorem fR_ex' {l : List R6} {kind mach tr : Int32} (h : ∃ e ∈ l, is6 kind mach tr e) : fR l kind mach tr ≠ none := by
  intro q
  obtain ⟨e, he, h⟩ := h
  exact fR_none.mp q e he h
def oval (o : Option R6) : Int32 := match o with
  | some e => e.2.2.2.2.1
  | none => 0
/-- what was asked for under this trace -/
def amtOf (l : List R6) (mach tr : Int32) : Int32 := oval (fR l 1 mach tr)
theorem r_amt {g : Nat → Nat → Int32} {S : XH} {P : XP} {w : Nat} {l : List R6} {tr : Int32} (hR : RM g S) (hw : w < 5) (hJ : JM g w l) (hex : fR l 1 (Int32.ofNat w) tr ≠ none)
    (h : P (.inl (some (xv_i (amtOf l (Int32.ofNat w) tr)))) S) : Y_R_amountOf 0 0 [xv_r 15 0, xv_i (Int32.ofNat w), xv_i tr] S P := by
  refine r_amountOf hR hw hJ (fR_ex hex) fun i hi h1 h2 => ?_
  unfold amtOf at h
  rw [fR_first hi h1 h2] at h
  exact h
/-! what calls do to the state; the second is: power failed -/
noncomputable def drecB (d : DS) (w : Nat) (e : R6) : DS × Bool := (drec d w e, dfailsb d w)
def dthen (r : DS × Bool) (f : DS → DS × Bool) : DS × Bool := if r.2 = true then r else f r.1
theorem dthen_t {r : DS × Bool} {f : DS → DS × Bool} (h : r.2 = true) : dthen r f = r := if_pos h
theorem dthen_f {r : DS × Bool} {f : DS → DS × Bool} (h : r.2 = false) : dthen r f = f r.1 := if_neg (by rw [h]; decide)
noncomputable def drev (d : DS) (m : Nat) (t v : Int32) : DS × Bool := dthen (drecB d m (4, Int32.ofNat m, t, 0, v, 0)) fun d => (dsent d (420, Int32.ofNat m, t, 0, v, 0), false)
abbrev dlast (d : DS) (m : Nat) : Int32 := Int32.ofNat (asks (d.2 m))
noncomputable def dlate (d : DS) (m : Nat) : DS × Bool := dthen (drev d m (dlast d m) (amtOf (d.2 m) (Int32.ofNat m) (dlast d m))) fun d => (dset d 10 m 1, false)
noncomputable def drest (d : DS) (m : Nat) (t v : Int32) : DS × Bool := if 0 < amtOf (d.2 m) (Int32.ofNat m) t - v then drev d m t (amtOf (d.2 m) (Int32.ofNat m) t - v) else (d, false)
noncomputable def dpaid (d : DS) (m : Nat) (t v : Int32) : DS × Bool := dthen (drecB d m (3, Int32.ofNat m, t, 0, v, 0)) fun d => drest d m t v
/-- a model's method ended, and threw -/
def mN (d : DS) (g : Nat → Nat → Int32) (S : XH) (Q : XH → Prop) : Prop := ∀ g' S', RM g' S' → MD d g' → (∀ k, k = 26 → g' k = g k) → fm S S' → S' 19 = S 19 → Q S'
def mT (d : DS) (g : Nat → Nat → Int32) (S : XH) (nx : Nat) (Q : XH → Prop) : Prop := ∀ g' S', RM g' S' → MD d g' → (∀ k, k = 26 → g' k = g k) → fm S S' → (∀ k, k ≠ nx → S' 19 k = S 19 k) → S' 19 nx = some (.inl (14, [])) → Q S'
def mO (r : DS × Bool) (g : Nat → Nat → Int32) (S : XH) (nx : Nat) (P : XP) : Prop := (r.2 = false → mN r.1 g S (fun S' => P (.inl none) S')) ∧ (r.2 = true → mT r.1 g S nx (fun S' => P (.inr (19, nx)) S'))
theorem mN.tr {d : DS} {g g1 : Nat → Nat → Int32} {S S1 : XH} {Q : XH → Prop} (h : mN d g S Q) (hg : ∀ k, k = 26 → g1 k = g k) (hf : fm S S1) (h19 : S1 19 = S 19) : mN d g1 S1 Q :=
  fun g' S' a b c e f => h g' S' a b (fun k hk => (c k hk).trans (hg k hk)) (hf.tr e) (f.trans h19)
theorem mT.tr {d : DS} {g g1 : Nat → Nat → Int32} {S S1 : XH} {nx : Nat} {Q : XH → Prop} (h : mT d g S nx Q) (hg : ∀ k, k = 26 → g1 k = g k) (hf : fm S S1) (h19 : S1 19 = S 19) : mT d g1 S1 nx Q :=
  fun g' S' a b c e f i => h g' S' a b (fun k hk => (c k hk).trans (hg k hk)) (hf.tr e) (fun k hk => by rw [f k hk, h19]) i
theorem mO.tr {r : DS × Bool} {g g1 : Nat → Nat → Int32} {S S1 : XH} {nx : Nat} {P : XP} (h : mO r g S nx P) (hg : ∀ k, k = 26 → g1 k = g k) (hf : fm S S1) (h19 : S1 19 = S 19) : mO r g1 S1 nx P :=
  ⟨fun q => (h.1 q).tr hg hf h19, fun q => (h.2 q).tr hg hf h19⟩
theorem r_rec {d : DS} {g : Nat → Nat → Int32} {S : XH} {P : XP} {w nx : Nat} {e : R6} {a b c : Int32} (hR : RM g S) (hD : MD d g) (hw : w < 5) (hc : (d.2 w).length < jcap w) (he : mrel e a b c) (hx : S 19 nx = none)
    (h : mO (drecB d w e) g S nx P) : Y_R_record 1 6 [xv_r 15 0, xv_i (Int32.ofNat w), xv_i e.1, xv_i e.2.1, xv_i e.2.2.1, xv_i a, xv_i b, xv_i c] S P := by
  refine r_record hR hD hw hc he hx (fun hf g' S' a b c e i => h.1 ?_ g' S' a b (fun k hk => c k (by omega)) e i) (fun hf g' S' a b c e i j => h.2 (dfailsb_iff.mpr hf) g' S' a b (fun k hk => c k (by omega)) e i j)
  have : ¬ dfailsb d w = true := fun q => hf (dfailsb_iff.mp q)
  simpa [drecB] using this
theorem dset_2 (d : DS) (n j : Nat) (v : Int32) : (dset d n j v).2 = d.2 := rfl
theorem doff_2 (d : DS) (w : Nat) : (doff d w).2 = d.2 := by
  unfold doff
  split <;> rfl
theorem dapp_self (d : DS) (w : Nat) (e : R6) : (dapp d w e).2 w = d.2 w ++ [e] := if_pos rfl
theorem dapp_ne {d : DS} {w k : Nat} {e : R6} (h : k ≠ w) : (dapp d w e).2 k = d.2 k := if_neg h
theorem drec_self (d : DS) (w : Nat) (e : R6) : (drec d w e).2 w = d.2 w ∨ (drec d w e).2 w = d.2 w ++ [e] := by
  unfold drec
  split
  · rw [doff_2, dset_2]
    split
    · exact Or.inr (dapp_self d w e)
    · exact Or.inl rfl
  · exact Or.inr (dapp_self d w e)
theorem drec_ok (d : DS) (w : Nat) (e : R6) (h : dfailsb d w = false) : (drec d w e).2 w = d.2 w ++ [e] := by
  unfold drec
  rw [if_neg (by rw [h]; decide)]
  exact dapp_self d w e
theorem drec_ne {d : DS} {w k : Nat} {e : R6} (h : k ≠ w) : (drec d w e).2 k = d.2 k := by
  unfold drec
  split
  · rw [doff_2, dset_2]
    split
    · exact dapp_ne h
    · rfl
  · exact dapp_ne h
theorem dsent_ne {d : DS} {k : Nat} {e : R6} (h : k ≠ 5) : (dsent d e).2 k = d.2 k := by
  unfold dsent
  split
  · rfl
  · exact dapp_ne h
theorem dsent_1 (d : DS) (e : R6) : (dsent d e).1 = d.1 := by
  unfold dsent
  split <;> rfl
/-- the first of these is none that comes later -/
theorem fR_app {l l' : List R6} {kind mach tr : Int32} (h : fR l kind mach tr ≠ none) : fR (l ++ l') kind mach tr = fR l kind mach tr := by
  unfold fR at h ⊢
  rw [List.find?_append]
  cases hq : l.find? (is6b kind mach tr) with
  | none => exact (h hq).elim
  | some e => rfl
theorem mrel_v {k mach t acc v ans b c : Int32} (hk : k = 3 ∨ k = 4 ∨ k = 7) : mrel (k, mach, t, acc, v, ans) v b c := by
  refine ⟨fun q => ?_, fun q => ?_, fun _ => rfl⟩
  · exfalso
    change k = 1 ∨ k = 6 at q
    rcases hk with rfl | rfl | rfl <;> revert q <;> decide
  · exfalso
    change k = 6 at q
    rcases hk with rfl | rfl | rfl <;> revert q <;> decide
theorem mrel_x {k mach t acc v ans a b c : Int32} (hk : k = 2 ∨ k = 5) : mrel (k, mach, t, acc, v, ans) a b c := by
  refine ⟨fun q => ?_, fun q => ?_, fun q => ?_⟩
  · exfalso
    change k = 1 ∨ k = 6 at q
    rcases hk with rfl | rfl <;> revert q <;> decide
  · exfalso
    change k = 6 at q
    rcases hk with rfl | rfl <;> revert q <;> decide
  · exfalso
    change k = 3 ∨ k = 4 ∨ k = 7 at q
    rcases hk with rfl | rfl <;> revert q <;> decide
theorem mrel_a {k mach t acc v ans : Int32} (hk : k = 1 ∨ k = 6) : mrel (k, mach, t, acc, v, ans) acc v ans := by
  refine ⟨fun _ => ⟨rfl, rfl⟩, fun _ => rfl, fun q => ?_⟩
  exfalso
  change k = 3 ∨ k = 4 ∨ k = 7 at q
  rcases hk with rfl | rfl <;> revert q <;> decide
theorem r_reverse {d : DS} {g : Nat → Nat → Int32} {S : XH} {P : XP} {w nx : Nat} {t v : Int32} (hR : RM g S) (hD : MD d g) (hw : w < 5) (hc : (d.2 w).length < jcap w) (hx : S 19 nx = none)
    (h : mO (drev d w t v) g S nx P) : Y_R_reverse 1 6 [xv_r 15 0, xv_i (Int32.ofNat w), xv_i t, xv_i v] S P := by
  refine x_go.run mn_R_reverse 20 ?_
  refine ⟨nl rfl, ⟨_, hR.1⟩, rfl, nl rfl, 1, 6, nl rfl, nl rfl, r_rec (e := (4, Int32.ofNat w, t, 0, v, 0)) hR hD hw hc (mrel_v (Or.inr (Or.inl rfl))) hx ⟨fun hf g' S' a b c e i => ?_, fun hf => ?_⟩⟩
  · refine ⟨nl rfl, ⟨_, a.1⟩, rfl, nl rfl, 0, 0, nl rfl, nl rfl, r_sent (e := (420, Int32.ofNat w, t, 0, v, 0)) a b fun g2 S2 a2 b2 c2 e2 i2 => ?_⟩
    unfold drev at h
    rw [dthen_f hf] at h
    exact h.1 rfl g2 S2 a2 b2 (fun k hk => (c2 k (Or.inr (by omega))).trans (c k hk)) (e.tr e2) (i2.trans i)
  · unfold drev at h
    rw [dthen_t hf] at h
    exact h.2 hf
theorem r_late {d : DS} {g : Nat → Nat → Int32} {S : XH} {P : XP} {w nx : Nat} (hR : RM g S) (hD : MD d g) (hw : w < 4) (hc : (d.2 w).length < jcap w) (hx : S 19 nx = none) (hex : fR (d.2 w) 1 (Int32.ofNat w) (dlast d w) ≠ none)
    (h : mO (dlate d w) g S nx P) : Y_R_late 1 6 [xv_r 15 0, xv_i (Int32.ofNat w)] S P := by
  have hJ := hD.2.2.1 w (by omega)
  refine x_go.run mn_R_late 20 ?_
  refine ⟨nl rfl, ⟨_, hR.1⟩, rfl, nl rfl, 0, 0, Nat.zero_le _, Nat.zero_le _, (r_lastTrace hR (by omega) hJ ?_)⟩
  refine ⟨nl rfl, ⟨_, hR.1⟩, rfl, nl rfl, 0, 0, Nat.zero_le _, Nat.zero_le _, (r_amt hR (by omega) hJ hex ?_)⟩
  refine ⟨nl rfl, ⟨_, hR.1⟩, rfl, nl rfl, 1, 6, nl rfl, nl rfl, r_reverse hR hD (by omega) hc hx ⟨fun hf g' S' a b c e i => ?_, fun hf => ?_⟩⟩
  · refine ⟨nl rfl, _, _, a.1, rfl, ?_⟩
    refine ⟨_, _, a.2.1 10 rfl, nl rfl, z_in (by exact hw) (by decide), ?_⟩
    rw [z_nat (by omega)]
    unfold dlate at h
    rw [dthen_f hf] at h
    exact h.1 rfl _ _ (a.ast rfl _) (b.set rfl w 1) (fun k hk => by rw [gs_ne (by omega)]; exact c k hk) (e.up (by decide) (by decide)) (by rw [x_up_k (by decide)]; exact i)
  · unfold dlate at h
    rw [dthen_t hf] at h
    exact h.2 hf
theorem r_paid {d : DS} {g : Nat → Nat → Int32} {S : XH} {P : XP} {w nx : Nat} {t v : Int32} (hR : RM g S) (hD : MD d g) (hw : w < 5) (hc : (d.2 w).length + 1 < jcap w) (hx : S 19 nx = none) (hex : fR (d.2 w) 1 (Int32.ofNat w) t ≠ none)
    (h : mO (dpaid d w t v) g S nx P) : Y_R_paid 2 12 [xv_r 15 0, xv_i (Int32.ofNat w), xv_i t, xv_i v] S P := by
  refine x_go.run mn_R_paid 30 ?_
  refine ⟨nl rfl, ⟨_, hR.1⟩, rfl, nl rfl, 1, 6, nl rfl, nl rfl, r_rec (e := (3, Int32.ofNat w, t, 0, v, 0)) hR hD hw (by omega) (mrel_v (Or.inl rfl)) hx ⟨fun hf g' S' a b c e i => ?_, fun hf => ?_⟩⟩
  · unfold dpaid at h
    rw [dthen_f hf] at h
    have hl : (drec d w (3, Int32.ofNat w, t, 0, v, 0)).2 w = d.2 w ++ [(3, Int32.ofNat w, t, 0, v, 0)] := drec_ok _ _ _ hf
    have hex' : fR ((drec d w (3, Int32.ofNat w, t, 0, v, 0)).2 w) 1 (Int32.ofNat w) t ≠ none := by
      rw [hl, fR_app hex]
      exact hex
    refine ⟨nl rfl, ⟨_, a.1⟩, rfl, nl rfl, 0, 0, nl rfl, nl rfl, r_amt a hw (b.2.2.1 w hw) hex' ?_⟩
    have h' := h.tr c e i
    unfold drest at h'
    refine ⟨fun c1 => ?_, fun c1 => ?_⟩
    · rw [if_neg (Int32.not_lt.mpr c1)] at h'
      exact h'.1 rfl g' S' a b (fun _ _ => rfl) fm.rf rfl
    · rw [if_pos (Int32.not_le.mp c1)] at h'
      refine ⟨nl rfl, ⟨_, a.1⟩, rfl, nl rfl, 1, 6, nl rfl, nl rfl, r_reverse a b hw ?_ (by rw [i]; exact hx) ⟨fun q => ?_, fun q => ?_⟩⟩
      · show ((drec d w (3, Int32.ofNat w, t, 0, v, 0)).2 w).length < jcap w
        rw [hl, List.length_append]
        exact hc
      · exact h'.1 q
      · exact h'.2 q
  · unfold dpaid at h
    rw [dthen_t hf] at h
    exact h.2 hf
