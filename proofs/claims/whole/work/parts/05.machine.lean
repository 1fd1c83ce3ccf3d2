/-! AN ABSTRACT MACHINE over the kit's W: abstract values, cells and heaps; a map t from abstract places (kind, number) to addresses; steps as wp transformers. -/
abbrev XV : Type := Int32 ⊕ (Int64 ⊕ Option (Nat × Nat))
abbrev XA : Type := (Nat → Int32) ⊕ ((Nat → Int64) ⊕ (Nat → Option (Nat × Nat)))
abbrev XC : Type := (Nat × List XV) ⊕ (Nat × Nat × XA)
abbrev XH : Type := Nat → Nat → Option XC
abbrev XT : Type := Nat → Nat → Nat
abbrev XG : Type := va_G × (Nat → ClassId) × Nat × Heap × XT × XH
abbrev xv_i (x : Int32) : XV := .inl x
abbrev xv_l (x : Int64) : XV := .inr (.inl x)
abbrev xv_o (r : Option (Nat × Nat)) : XV := .inr (.inr r)
abbrev xv_r (k i : Nat) : XV := .inr (.inr (some (k, i)))
abbrev xv_n : XV := .inr (.inr none)
/-- an abstract value, concretely -/
def xz (t : XT) (v : XV) : Value := match v with
  | .inl x => .int x
  | .inr (.inl x) => .long x
  | .inr (.inr none) => .null
  | .inr (.inr (some r)) => .ref (t r.1 r.2)
def xz_o (t : XT) (r : Option (Nat × Nat)) : Option Nat := match r with
  | none => none
  | some q => some (t q.1 q.2)
def xz_a (t : XT) (n : Nat) (a : XA) : vp_A := match a with
  | .inl f => (n, .inl f)
  | .inr (.inl f) => (n, .inr (.inl f))
  | .inr (.inr f) => (n, .inr (.inr (.inr (.inr (fun j => xz_o t (f j))))))
theorem xz_rf (t : XT) (r : Option (Nat × Nat)) : va_rf (xz_o t r) = xz t (xv_o r) := by cases r <;> rfl
/-- is it of one word -/
def x_c1 (v : XV) : Bool := match v with
  | .inr (.inl _) => false
  | _ => true
theorem x_c1_cat {t : XT} {v : XV} (h : x_c1 v = true) : (xz t v).category = 1 := by
  rcases v with x | x | r
  · rfl
  · cases h
  · cases r <;> rfl
def x_cs (st : List XV) : Nat := match st with
  | [] => 0
  | v :: r => (if x_c1 v = true then 1 else 2) + x_cs r
theorem x_cs_cat (t : XT) (st : List XV) : ((st.map (xz t)).map fun v => v.category).sum = x_cs st := by
  induction st with
  | nil => rfl
  | cons v r ih =>
    rw [List.map_cons, List.map_cons, List.sum_cons, ih]
    show _ = (if x_c1 v = true then 1 else 2) + x_cs r
    congr 1
    rcases v with x | x | o
    · rfl
    · rfl
    · cases o <;> rfl
/-- a cell of the abstract heap stands at the address a -/
def x_at (G : XG) (t : XT) (a : Nat) (c : XC) (H : Heap) : Prop := match c with
  | .inl o => va_at G.1 x_cls (a, .inr (o.1, o.2.map (xz t))) H
  | .inr q => va_at G.1 x_cls (a, .inl (G.2.1 q.1, xz_a t q.2.1 q.2.2)) H
/-- a value's place is filled -/
def x_ok (S : XH) (v : XV) : Prop := match v with
  | .inr (.inr (some r)) => S r.1 r.2 ≠ none
  | _ => True
def x_oks (S : XH) (st : List XV) : Prop := ∀ v ∈ st, x_ok S v
def x_okc (S : XH) (c : XC) : Prop := match c with
  | .inl o => x_oks S o.2
  | .inr (_, n, .inr (.inr f)) => ∀ j, j < n → x_ok S (xv_o (f j))
  | .inr _ => True
def x_up (S : XH) (k i : Nat) (c : XC) : XH := fun k' i' => if k' = k ∧ i' = i then some c else S k' i'
def x_ut (t : XT) (k i a : Nat) : XT := fun k' i' => if k' = k ∧ i' = i then a else t k' i'
theorem x_up_self (S : XH) (k i : Nat) (c : XC) : x_up S k i c k i = some c := if_pos ⟨rfl, rfl⟩
theorem x_up_ne {S : XH} {k i k' i' : Nat} {c : XC} (h : ¬ (k' = k ∧ i' = i)) : x_up S k i c k' i' = S k' i' := if_neg h
theorem x_ut_self (t : XT) (k i a : Nat) : x_ut t k i a k i = a := if_pos ⟨rfl, rfl⟩
theorem x_ut_ne {t : XT} {k i k' i' a : Nat} (h : ¬ (k' = k ∧ i' = i)) : x_ut t k i a k' i' = t k' i' := if_neg h
theorem x_up_some {S : XH} {k i k' i' : Nat} {c : XC} (h : S k' i' ≠ none) : x_up S k i c k' i' ≠ none := by
  unfold x_up
  split
  · exact fun q => by cases q
  · exact h
/-- t' is t where S has cells -/
def x_ag (t t' : XT) (S : XH) : Prop := ∀ k i, S k i ≠ none → t' k i = t k i
def x_dm (S S' : XH) : Prop := ∀ k i, S k i ≠ none → S' k i ≠ none
theorem x_ag.rf {t : XT} {S : XH} : x_ag t t S := fun _ _ _ => rfl
theorem x_dm.rf {S : XH} : x_dm S S := fun _ _ h => h
theorem x_dm.up {S S' : XH} {k i : Nat} {c : XC} (h : x_dm S S') : x_dm S (x_up S' k i c) := fun a b q => x_up_some (h a b q)
theorem x_dm.trans {S S' S'' : XH} (h : x_dm S S') (h' : x_dm S' S'') : x_dm S S'' := fun a b q => h' a b (h a b q)
theorem x_ok.dm {S S' : XH} {v : XV} (h : x_ok S v) (d : x_dm S S') : x_ok S' v := by
  rcases v with x | x | r
  · trivial
  · trivial
  · cases r with
    | none => trivial
    | some r => exact d _ _ h
theorem x_oks.dm {S S' : XH} {st : List XV} (h : x_oks S st) (d : x_dm S S') : x_oks S' st := fun v hv => (h v hv).dm d
theorem x_oks.cons {S : XH} {v : XV} {st : List XV} (h : x_ok S v) (h' : x_oks S st) : x_oks S (v :: st) := fun w hw => by
  rcases List.mem_cons.mp hw with rfl | hw
  · exact h
  · exact h' w hw
theorem x_oks.hd {S : XH} {v : XV} {st : List XV} (h : x_oks S (v :: st)) : x_ok S v := h v List.mem_cons_self
theorem x_oks.tl {S : XH} {v : XV} {st : List XV} (h : x_oks S (v :: st)) : x_oks S st := fun w hw => h w (List.mem_cons_of_mem _ hw)
theorem x_okc.dm {S S' : XH} {c : XC} (h : x_okc S c) (d : x_dm S S') : x_okc S' c := by
  rcases c with o | ⟨q, n, f | f | f⟩
  · exact x_oks.dm h d
  · trivial
  · trivial
  · exact fun j hj => (h j hj).dm d
theorem xz_ag {t t' : XT} {S : XH} {v : XV} (h : x_ok S v) (a : x_ag t t' S) : xz t' v = xz t v := by
  rcases v with x | x | r
  · rfl
  · rfl
  · cases r with
    | none => rfl
    | some r => exact congrArg Value.ref (a _ _ h)
theorem xz_ags {t t' : XT} {S : XH} {st : List XV} (h : x_oks S st) (a : x_ag t t' S) : st.map (xz t') = st.map (xz t) := List.map_congr_left fun v hv => xz_ag (h v hv) a
theorem x_arrV {cA : ClassId} {n : Nat} {f g : Nat → Value} (h : ∀ j, j < n → f j = g j) : arrV cA n f = arrV cA n g := by
  unfold arrV
  congr 1
  apply Array.ext
  · simp
  · intro j h1 h2
    simp only [Array.getElem_ofFn]
    exact h j (by simpa using h1)
theorem x_at.kept {G : XG} {t : XT} {a : Nat} {c : XC} {H H1 : Heap} (h : x_at G t a c H) (hq : H1[a]? = H[a]?) : x_at G t a c H1 := by
  rcases c with o | q
  · have h' : va_at G.1 x_cls (a, .inr (o.1, o.2.map (xz t))) H := h
    exact h'.kept hq
  · have h' : va_at G.1 x_cls (a, .inl (G.2.1 q.1, xz_a t q.2.1 q.2.2)) H := h
    exact h'.kept hq
theorem x_at.lt {G : XG} {t : XT} {a : Nat} {c : XC} {H : Heap} (h : x_at G t a c H) : a < H.size := by
  rcases c with o | q
  · have h' : va_at G.1 x_cls (a, .inr (o.1, o.2.map (xz t))) H := h
    exact h'.lt
  · have h' : va_at G.1 x_cls (a, .inl (G.2.1 q.1, xz_a t q.2.1 q.2.2)) H := h
    exact h'.lt
theorem x_at.ag {G : XG} {t t' : XT} {S : XH} {a : Nat} {c : XC} {H : Heap} (h : x_at G t a c H) (ho : x_okc S c) (g : x_ag t t' S) : x_at G t' a c H := by
  rcases c with o | ⟨q, n, f | f | f⟩
  · show va_at G.1 x_cls (a, .inr (o.1, o.2.map (xz t'))) H
    rw [xz_ags ho g]
    exact h
  · exact h
  · exact h
  · have e : vp_cell (G.2.1 q) (xz_a t' n (.inr (.inr f))) = vp_cell (G.2.1 q) (xz_a t n (.inr (.inr f))) := by
      show arrV (G.2.1 q) n (fun j => va_rf (xz_o t' (f j))) = arrV (G.2.1 q) n (fun j => va_rf (xz_o t (f j)))
      refine x_arrV fun j hj => ?_
      rw [xz_rf, xz_rf, xz_ag (ho j hj) g]
    show H[a]? = some (vp_cell (G.2.1 q) (xz_a t' n (.inr (.inr f))))
    rw [e]
    exact h
/-- the abstract heap S stands in the heap H, by t; below the mark nothing has changed; what is read only (kinds from 48 on) is as G has it -/
def x_R (G : XG) (t : XT) (S : XH) (H : Heap) : Prop :=
  (∀ k i c, k < 48 → S k i = some c → x_at G t (t k i) c H) ∧ (∀ k i c, S k i = some c → x_okc S c) ∧
  (∀ k i k' i', k < 48 → k' < 48 → S k i ≠ none → S k' i' ≠ none → t k i = t k' i' → k = k' ∧ i = i') ∧
  (∀ k i, S k i ≠ none → k < 48 → G.2.2.1 ≤ t k i) ∧ (∀ q, q < G.2.2.1 → H[q]? = G.2.2.2.1[q]?) ∧ G.2.2.1 ≤ H.size ∧
  (∀ k i, ¬ k < 48 → S k i = G.2.2.2.2.2 k i ∧ (S k i ≠ none → t k i = G.2.2.2.2.1 k i ∧ (k < 55 → t k i < G.2.2.1)))
theorem x_some {S : XH} {k i : Nat} {c : XC} (h : S k i = some c) : S k i ≠ none := by rw [h]; exact fun q => by cases q
theorem x_R.lt {G : XG} {t : XT} {S : XH} {H : Heap} (h : x_R G t S H) {k i : Nat} (h48 : k < 48) (hk : S k i ≠ none) : t k i < H.size := by
  cases hc : S k i with
  | none => exact absurd hc hk
  | some c => exact (h.1 k i c h48 hc).lt
theorem x_R.set {G : XG} {t : XT} {S : XH} {H H1 : Heap} {k i : Nat} {c0 c : XC} (h : x_R G t S H) (h0 : S k i = some c0) (hk : k < 48) (hc : x_okc S c) (hs : H1.size = H.size) (ho : ∀ q, q ≠ t k i → H1[q]? = H[q]?) (ha : x_at G t (t k i) c H1) : x_R G t (x_up S k i c) H1 := by
  obtain ⟨h1, h2, h3, h4, h5, h6, h7⟩ := h
  have hn : S k i ≠ none := x_some h0
  have hb : ∀ a b, x_up S k i c a b ≠ none → S a b ≠ none := fun a b q => by
    unfold x_up at q
    split at q
    · next e => rw [e.1, e.2]; exact hn
    · exact q
  refine ⟨fun a b d h48 hd => ?_, fun a b d hd => ?_, fun a b a' b' z z' q q' e => h3 a b a' b' z z' (hb _ _ q) (hb _ _ q') e, fun a b q hq => h4 a b (hb _ _ q) hq, fun q hq => ?_, by rw [hs]; exact h6, fun a b q => ?_⟩
  · unfold x_up at hd
    split at hd
    · next e =>
      cases hd
      rw [e.1, e.2]
      exact ha
    · next e =>
      have hne : t a b ≠ t k i := fun q => e (h3 a b k i h48 hk (x_some hd) hn q)
      exact (h1 a b d h48 hd).kept (ho _ hne)
  · unfold x_up at hd
    split at hd
    · cases hd
      exact hc.dm (x_dm.up x_dm.rf)
    · exact (h2 a b d hd).dm (x_dm.up x_dm.rf)
  · rw [ho q (fun e => by have := h4 k i hn hk; omega)]
    exact h5 q hq
  · rw [x_up_ne (fun e => q (by rw [e.1]; exact hk))]
    exact h7 a b q
theorem x_R.new {G : XG} {t : XT} {S : XH} {H H1 : Heap} {k i : Nat} {c : XC} (h : x_R G t S H) (hk : k < 48) (h0 : S k i = none) (hs : H1.size = H.size + 1) (ho : ∀ q, q < H.size → H1[q]? = H[q]?) (hc : x_okc (x_up S k i c) c) (ha : x_at G (x_ut t k i H.size) H.size c H1) :
    x_R G (x_ut t k i H.size) (x_up S k i c) H1 ∧ x_ag t (x_ut t k i H.size) S := by
  have hag : x_ag t (x_ut t k i H.size) S := fun a b q => x_ut_ne (fun e => q (by rw [e.1, e.2]; exact h0))
  have hL := fun {a b : Nat} (z : a < 48) (q : S a b ≠ none) => h.lt z q
  obtain ⟨h1, h2, h3, h4, h5, h6, h7⟩ := h
  refine ⟨⟨fun a b d h48 hd => ?_, fun a b d hd => ?_, fun a b a' b' z z' q q' e => ?_, fun a b q hq => ?_, fun q hq => ?_, by omega, fun a b q => ?_⟩, hag⟩
  · unfold x_up at hd
    split at hd
    · next e =>
      cases hd
      rw [e.1, e.2, x_ut_self]
      exact ha
    · next e =>
      have hn : S a b ≠ none := x_some hd
      rw [hag a b hn]
      exact ((h1 a b d h48 hd).kept (ho _ (hL h48 hn))).ag (h2 a b d hd) hag
  · unfold x_up at hd
    split at hd
    · cases hd
      exact hc
    · exact (h2 a b d hd).dm (x_dm.up x_dm.rf)
  · by_cases ea : a = k ∧ b = i
    · by_cases eb : a' = k ∧ b' = i
      · exact ⟨ea.1.trans eb.1.symm, ea.2.trans eb.2.symm⟩
      · rw [x_up_ne eb] at q'
        rw [ea.1, ea.2, x_ut_self, hag a' b' q'] at e
        have := hL z' q'
        omega
    · rw [x_up_ne ea] at q
      by_cases eb : a' = k ∧ b' = i
      · rw [eb.1, eb.2, x_ut_self, hag a b q] at e
        have := hL z q
        omega
      · rw [x_up_ne eb] at q'
        rw [hag a b q, hag a' b' q'] at e
        exact h3 a b a' b' z z' q q' e
  · by_cases ea : a = k ∧ b = i
    · rw [ea.1, ea.2, x_ut_self]
      exact h6
    · rw [x_up_ne ea] at q
      rw [hag a b q]
      exact h4 a b q hq
  · rw [ho q (by omega)]
    exact h5 q hq
  · have hne : ¬ (a = k ∧ b = i) := fun z => q (by rw [z.1]; exact hk)
    rw [x_up_ne hne, x_ut_ne hne]
    exact h7 a b q
/-- the locals -/
def x_pl (t : XT) (L : List (Option XV)) : List (Nat × Value) := L.zipIdx.filterMap (fun q => q.1.map (fun v => (q.2, xz t v)))
theorem x_pl_mem {t : XT} {L : List (Option XV)} {i : Nat} {w : Value} : (i, w) ∈ x_pl t L ↔ ∃ v, L[i]? = some (some v) ∧ w = xz t v := by
  unfold x_pl
  rw [List.mem_filterMap]
  constructor
  · rintro ⟨⟨o, j⟩, h1, h2⟩
    have h1 := List.mem_zipIdx_iff_getElem?.mp h1
    cases o with
    | none => cases h2
    | some v =>
      simp only [Option.map_some, Option.some.injEq, Prod.mk.injEq] at h2
      obtain ⟨rfl, rfl⟩ := h2
      exact ⟨v, h1, rfl⟩
  · rintro ⟨v, h, rfl⟩
    exact ⟨(some v, i), List.mem_zipIdx_iff_getElem?.mpr h, rfl⟩
def x_L (t : XT) (ls : Array Slot) (nL : Nat) (L : List (Option XV)) : Prop := lv_has ls nL (x_pl t L) ∧ ∀ v, some v ∈ L → x_c1 v = true
def x_okl (S : XH) (L : List (Option XV)) : Prop := ∀ v, some v ∈ L → x_ok S v
theorem x_okl.dm {S S' : XH} {L : List (Option XV)} (h : x_okl S L) (d : x_dm S S') : x_okl S' L := fun v hv => (h v hv).dm d
theorem x_L.at {t : XT} {ls : Array Slot} {nL : Nat} {L : List (Option XV)} (h : x_L t ls nL L) {i : Nat} {v : XV} (hi : L[i]? = some (some v)) : ls[i]? = some (.val (xz t v)) := h.1.2.2 (i, xz t v) (x_pl_mem.mpr ⟨v, hi, rfl⟩)
theorem x_L.ag {t t' : XT} {S : XH} {ls : Array Slot} {nL : Nat} {L : List (Option XV)} (h : x_L t ls nL L) (ho : x_okl S L) (g : x_ag t t' S) : x_L t' ls nL L := by
  refine ⟨⟨h.1.1, h.1.2.1, ?_⟩, h.2⟩
  rintro ⟨j, w⟩ hq
  obtain ⟨v, hv, rfl⟩ := x_pl_mem.mp hq
  show ls[j]? = _
  rw [h.at hv, xz_ag (ho v (List.mem_of_getElem? hv)) g]
theorem x_L.set {t : XT} {ls : Array Slot} {nL : Nat} {L : List (Option XV)} {i : Nat} {v : XV} (hL : ∀ v, some v ∈ L → x_c1 v = true) (hv : x_c1 v = true) (h : lv_has ls nL ((i, xz t v) :: (x_pl t L).filter (fun q => !(q.1 == i) && !(q.1 + 1 == i && q.2.category == 2)))) : x_L t ls nL (L.set i (some v)) := by
  refine ⟨⟨h.1, h.2.1, ?_⟩, ?_⟩
  · rintro ⟨j, w⟩ hq
    obtain ⟨v', h1, rfl⟩ := x_pl_mem.mp hq
    rw [List.getElem?_set] at h1
    by_cases hj : i = j
    · subst hj
      rw [if_pos rfl] at h1
      split at h1
      · simp only [Option.some.injEq] at h1
        subst h1
        exact h.2.2 _ List.mem_cons_self
      · cases h1
    · rw [if_neg hj] at h1
      refine h.2.2 (j, xz t v') (List.mem_cons_of_mem _ (List.mem_filter.mpr ⟨x_pl_mem.mpr ⟨v', h1, rfl⟩, ?_⟩))
      have := x_c1_cat (t := t) (hL v' (List.mem_of_getElem? h1))
      simp [Ne.symm hj, this]
  · intro v' hv'
    rcases List.mem_or_eq_of_mem_set hv' with q | q
    · exact hL v' q
    · cases q
      exact hv
theorem x_okl.set {S : XH} {L : List (Option XV)} {i : Nat} {v : XV} (h : x_okl S L) (hv : x_ok S v) : x_okl S (L.set i (some v)) := by
  intro v' hv'
  rcases List.mem_or_eq_of_mem_set hv' with q | q
  · exact h v' q
  · cases q
    exact hv
