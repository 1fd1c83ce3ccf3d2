/-! defaults of new objects; a store of an Entry or a Message, or null, into an array of Object; ranges of switches -/
def xD0 : List XV := [xv_n, xv_n, xv_n, xv_n]
theorem xd0 : ∀ (t : XT) (j : Nat), j < 4 → defaultValue (xY0 j) = vp_V (xD0.map (xz t)) j := by
  intro t j hj
  match j, hj with
  | 0, _ => rfl
  | 1, _ => rfl
  | 2, _ => rfl
  | 3, _ => rfl
  | j + 4, h => omega
def xD1 : List XV := [xv_n]
theorem xd1 : ∀ (t : XT) (j : Nat), j < 1 → defaultValue (xY1 j) = vp_V (xD1.map (xz t)) j := by
  intro t j hj
  match j, hj with
  | 0, _ => rfl
  | j + 1, h => omega
def xD2 : List XV := [xv_n, xv_n, xv_n, xv_i 0, xv_i 0]
theorem xd2 : ∀ (t : XT) (j : Nat), j < 5 → defaultValue (xY2 j) = vp_V (xD2.map (xz t)) j := by
  intro t j hj
  match j, hj with
  | 0, _ => rfl
  | 1, _ => rfl
  | 2, _ => rfl
  | 3, _ => rfl
  | 4, _ => rfl
  | j + 5, h => omega
def xD3 : List XV := [xv_i 0, xv_n, xv_n, xv_n, xv_n, xv_n, xv_i 0, xv_i 0, xv_i 0, xv_i 0, xv_n]
theorem xd3 : ∀ (t : XT) (j : Nat), j < 11 → defaultValue (xY3 j) = vp_V (xD3.map (xz t)) j := by
  intro t j hj
  match j, hj with
  | 0, _ => rfl
  | 1, _ => rfl
  | 2, _ => rfl
  | 3, _ => rfl
  | 4, _ => rfl
  | 5, _ => rfl
  | 6, _ => rfl
  | 7, _ => rfl
  | 8, _ => rfl
  | 9, _ => rfl
  | 10, _ => rfl
  | j + 11, h => omega
def xD4 : List XV := [xv_n, xv_i 0, xv_i 0, xv_i 0, xv_i 0]
theorem xd4 : ∀ (t : XT) (j : Nat), j < 5 → defaultValue (xY4 j) = vp_V (xD4.map (xz t)) j := by
  intro t j hj
  match j, hj with
  | 0, _ => rfl
  | 1, _ => rfl
  | 2, _ => rfl
  | 3, _ => rfl
  | 4, _ => rfl
  | j + 5, h => omega
def xD5 : List XV := [xv_n, xv_i 0, xv_i 0, xv_i 0, xv_i 0]
theorem xd5 : ∀ (t : XT) (j : Nat), j < 5 → defaultValue (xY5 j) = vp_V (xD5.map (xz t)) j := by
  intro t j hj
  match j, hj with
  | 0, _ => rfl
  | 1, _ => rfl
  | 2, _ => rfl
  | 3, _ => rfl
  | 4, _ => rfl
  | j + 5, h => omega
def xD6 : List XV := [xv_i 0, xv_i 0, xv_i 0, xv_i 0, xv_i 0, xv_i 0]
theorem xd6 : ∀ (t : XT) (j : Nat), j < 6 → defaultValue (xY6 j) = vp_V (xD6.map (xz t)) j := by
  intro t j hj
  match j, hj with
  | 0, _ => rfl
  | 1, _ => rfl
  | 2, _ => rfl
  | 3, _ => rfl
  | 4, _ => rfl
  | 5, _ => rfl
  | j + 6, h => omega
def xD7 : List XV := [xv_n, xv_i 0, xv_i 0, xv_i 0, xv_i 0, xv_i 0]
theorem xd7 : ∀ (t : XT) (j : Nat), j < 6 → defaultValue (xY7 j) = vp_V (xD7.map (xz t)) j := by
  intro t j hj
  match j, hj with
  | 0, _ => rfl
  | 1, _ => rfl
  | 2, _ => rfl
  | 3, _ => rfl
  | 4, _ => rfl
  | 5, _ => rfl
  | j + 6, h => omega
def xD8 : List XV := [xv_n, xv_i 0, xv_i 0]
theorem xd8 : ∀ (t : XT) (j : Nat), j < 3 → defaultValue (xY8 j) = vp_V (xD8.map (xz t)) j := by
  intro t j hj
  match j, hj with
  | 0, _ => rfl
  | 1, _ => rfl
  | 2, _ => rfl
  | j + 3, h => omega
def xD9 : List XV := [xv_n, xv_i 0, xv_i 0, xv_i 0]
theorem xd9 : ∀ (t : XT) (j : Nat), j < 4 → defaultValue (xY9 j) = vp_V (xD9.map (xz t)) j := by
  intro t j hj
  match j, hj with
  | 0, _ => rfl
  | 1, _ => rfl
  | 2, _ => rfl
  | 3, _ => rfl
  | j + 4, h => omega
def xD10 : List XV := [xv_n, xv_n, xv_n, xv_n, xv_n, xv_n, xv_n, xv_n, xv_n, xv_i 0, xv_n, xv_n, xv_n, xv_n, xv_n, xv_n, xv_n, xv_n, xv_n, xv_n, xv_n, xv_n, xv_n, xv_n, xv_n, xv_i 0, xv_i 0, xv_n, xv_n, xv_n, xv_i 0]
theorem xd10 : ∀ (t : XT) (j : Nat), j < 31 → defaultValue (xY10 j) = vp_V (xD10.map (xz t)) j := by
  intro t j hj
  match j, hj with
  | 0, _ => rfl
  | 1, _ => rfl
  | 2, _ => rfl
  | 3, _ => rfl
  | 4, _ => rfl
  | 5, _ => rfl
  | 6, _ => rfl
  | 7, _ => rfl
  | 8, _ => rfl
  | 9, _ => rfl
  | 10, _ => rfl
  | 11, _ => rfl
  | 12, _ => rfl
  | 13, _ => rfl
  | 14, _ => rfl
  | 15, _ => rfl
  | 16, _ => rfl
  | 17, _ => rfl
  | 18, _ => rfl
  | 19, _ => rfl
  | 20, _ => rfl
  | 21, _ => rfl
  | 22, _ => rfl
  | 23, _ => rfl
  | 24, _ => rfl
  | 25, _ => rfl
  | 26, _ => rfl
  | 27, _ => rfl
  | 28, _ => rfl
  | 29, _ => rfl
  | 30, _ => rfl
  | j + 31, h => omega
def X_aastD : XI := fun K P pc L st S u w => X_aast 3 6 K P pc L st S u w ∨ X_aast 3 7 K P pc L st S u w ∨ X_aastN 3 K P pc L st S u w
theorem xm_aastD : XMon X_aastD := fun K K' P P' pc L st S u w hK hP h => h.imp (xm_aast K K' P P' pc L st S u w hK hP) (fun h => h.imp (xm_aast K K' P P' pc L st S u w hK hP) (xm_aastN K K' P P' pc L st S u w hK hP))
theorem xs_aastD {M : XM} {pc : Nat} (hd : decode M.2.1 pc = .ok (.aastore, 1)) : XSnd M pc X_aastD := by
  intro G p l e R s m args below meth c P t0 S0 htr0 hC K hK L st S u w h
  rcases h with h | h | h
  · exact xs_aastO hd rfl xc6 (E := "java/lang/Object") (x_i7 16 rfl rfl) G p l e R s m args below meth c P t0 S0 htr0 hC K hK L st S u w h
  · exact xs_aastO hd rfl xc7 (E := "java/lang/Object") (x_i7 17 rfl rfl) G p l e R s m args below meth c P t0 S0 htr0 hC K hK L st S u w h
  · exact xs_aastN hd (C := "java/lang/Object") rfl G p l e R s m args below meth c P t0 S0 htr0 hC K hK L st S u w h
theorem x_swall (lo : Int) (n : Nat) (tab : List (Int × Nat)) (h : (List.range n).all (fun j => tab.any (fun q => decide (q.1 = lo + (j : Int)))) = true) {hi : Int} (hh : hi = lo + (n : Int) - 1 := by decide) : ∀ v : Int, lo ≤ v → v ≤ hi → ∃ q ∈ tab, v = q.1 := by
  intro v h1 h2
  have hj : (v - lo).toNat < n := by omega
  have := List.all_eq_true.mp h (v - lo).toNat (List.mem_range.mpr hj)
  obtain ⟨q, hq, e⟩ := List.any_eq_true.mp this
  refine ⟨q, hq, ?_⟩
  have e := of_decide_eq_true e
  omega
theorem x_zint : ∀ f, (Sum.inl (fun _ => 0) : XA) = .inr (.inr f) → ∀ j, f j = none := fun f h => by cases h
theorem x_zbyte : ∀ f, (Sum.inl (fun _ => 0) : XA) = .inr (.inr f) → ∀ j, f j = none := fun f h => by cases h
theorem x_zlong : ∀ f, (Sum.inr (.inl (fun _ => 0)) : XA) = .inr (.inr f) → ∀ j, f j = none := fun f h => by cases h
