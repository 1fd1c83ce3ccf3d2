/-! the words that every method may use, and how they are carried to warmer tables -/
def x_gb (w : Cond) : Bool := match w with
  | .arrayClass _ => true
  | .methodLinkNest .. => true
  | .fieldLinkNest .. => true
  | .castable .. => true
  | .declares _ => true
  | .privateMethod _ => true
  | .arrayOver (.object _) => true
  | .not (.castable ..) => true
  | w => w.onTables && w.keeps
theorem x_wat {args a' : Array Value} {s U : State} (hW : s.WarmedH U.vm) {w : Cond} (hg : x_gb w = true) (h : w.before args s = true) : w.before a' U = true := by
  unfold x_gb at hg
  split at hg
  · exact word_at hW (Or.inr ⟨_, rfl⟩) h
  · exact va_Nw.use rfl (va_Nw.warmM hW (va_Nw.of rfl h))
  · exact va_Nw.use rfl (va_Nw.warmF hW (va_Nw.of rfl h))
  · exact va_Nw.use rfl (va_Nw.warmC hW (va_Nw.of rfl h))
  · exact va_Nw.use rfl (va_Nw.warmD hW (va_Nw.of rfl h))
  · next x => exact va_tabs rfl (rfl : (s.setVm U.vm).vm = U.vm) (by rw [Cond.privateMethod_setVm hW.alike]; exact h)
  · exact va_AO.use (va_AO.moved hW.alike (va_AO.of h))
  · next a b =>
    have h1 := Cond.castAtom_setVm hW.alike (.not (.castable a b)) rfl h
    exact h1
  · exact word_at hW (Or.inl hg) h
def x_nc : List Cond := [Cond.not (Cond.castable "java/lang/IllegalStateException" "java/lang/IllegalArgumentException"), Cond.not (Cond.castable "java/lang/UnsupportedOperationException" "java/lang/IllegalArgumentException"), Cond.not (Cond.castable "java/lang/ArithmeticException" "java/lang/IllegalArgumentException"), Cond.not (Cond.castable "java/lang/IndexOutOfBoundsException" "java/lang/IllegalArgumentException"), Cond.not (Cond.castable "java/lang/IllegalArgumentException" "java/lang/IllegalStateException"), Cond.not (Cond.castable "java/lang/UnsupportedOperationException" "java/lang/IllegalStateException"), Cond.not (Cond.castable "java/lang/ArithmeticException" "java/lang/IllegalStateException"), Cond.not (Cond.castable "java/lang/IndexOutOfBoundsException" "java/lang/IllegalStateException"), Cond.not (Cond.castable "java/lang/IllegalArgumentException" "java/lang/UnsupportedOperationException"), Cond.not (Cond.castable "java/lang/IllegalStateException" "java/lang/UnsupportedOperationException"), Cond.not (Cond.castable "java/lang/ArithmeticException" "java/lang/UnsupportedOperationException"), Cond.not (Cond.castable "java/lang/IndexOutOfBoundsException" "java/lang/UnsupportedOperationException"), Cond.not (Cond.castable "java/lang/IllegalArgumentException" "java/lang/ArithmeticException"), Cond.not (Cond.castable "java/lang/IllegalStateException" "java/lang/ArithmeticException"), Cond.not (Cond.castable "java/lang/UnsupportedOperationException" "java/lang/ArithmeticException"), Cond.not (Cond.castable "java/lang/IndexOutOfBoundsException" "java/lang/ArithmeticException"), Cond.not (Cond.castable "java/lang/IllegalArgumentException" "java/lang/IndexOutOfBoundsException"), Cond.not (Cond.castable "java/lang/IllegalStateException" "java/lang/IndexOutOfBoundsException"), Cond.not (Cond.castable "java/lang/UnsupportedOperationException" "java/lang/IndexOutOfBoundsException"), Cond.not (Cond.castable "java/lang/ArithmeticException" "java/lang/IndexOutOfBoundsException")]
def x_Wd : List Cond := lw_tbl.filter x_gb ++ x_nc
theorem x_good : ∀ w ∈ x_Wd, x_gb w = true := by
  intro w hw
  rcases List.mem_append.mp hw with h | h
  · exact (List.mem_filter.mp h).2
  · have : x_nc.all x_gb = true := by decide +kernel
    exact List.all_eq_true.mp this w h
theorem x_inT {w : Cond} (h : w ∈ tables_1) (hg : x_gb w = true) : w ∈ x_Wd := List.mem_append_left _ (List.mem_filter.mpr ⟨List.mem_append_right _ h, hg⟩)
theorem x_inN {w : Cond} (k : Nat) (h : x_nc[k]? = some w) : w ∈ x_Wd := List.mem_append_right _ (List.mem_of_getElem? h)
theorem x_i1 {w : Cond} (k : Nat) (h : tables_1_1[k]? = some w) (hg : x_gb w = true) : w ∈ x_Wd := x_inT (List.mem_append_left _ (List.mem_of_getElem? h)) hg
theorem x_i2 {w : Cond} (k : Nat) (h : tables_1_2[k]? = some w) (hg : x_gb w = true) : w ∈ x_Wd := x_inT (List.mem_append_right _ (List.mem_append_left _ (List.mem_of_getElem? h))) hg
theorem x_i3 {w : Cond} (k : Nat) (h : tables_1_3[k]? = some w) (hg : x_gb w = true) : w ∈ x_Wd := x_inT (List.mem_append_right _ (List.mem_append_right _ (List.mem_append_left _ (List.mem_of_getElem? h)))) hg
theorem x_i4 {w : Cond} (k : Nat) (h : tables_1_4[k]? = some w) (hg : x_gb w = true) : w ∈ x_Wd := x_inT (List.mem_append_right _ (List.mem_append_right _ (List.mem_append_right _ (List.mem_append_left _ (List.mem_of_getElem? h))))) hg
theorem x_i5 {w : Cond} (k : Nat) (h : tables_1_5[k]? = some w) (hg : x_gb w = true) : w ∈ x_Wd := x_inT (List.mem_append_right _ (List.mem_append_right _ (List.mem_append_right _ (List.mem_append_right _ (List.mem_append_left _ (List.mem_of_getElem? h)))))) hg
theorem x_i6 {w : Cond} (k : Nat) (h : tables_1_6[k]? = some w) (hg : x_gb w = true) : w ∈ x_Wd := x_inT (List.mem_append_right _ (List.mem_append_right _ (List.mem_append_right _ (List.mem_append_right _ (List.mem_append_right _ (List.mem_append_left _ (List.mem_of_getElem? h))))))) hg
theorem x_i7 {w : Cond} (k : Nat) (h : tables_1_7[k]? = some w) (hg : x_gb w = true) : w ∈ x_Wd := x_inT (List.mem_append_right _ (List.mem_append_right _ (List.mem_append_right _ (List.mem_append_right _ (List.mem_append_right _ (List.mem_append_right _ (List.mem_of_getElem? h))))))) hg
-- privs: ['lw_privs_1', 'lw_privs_2', 'lw_privs_3', 'lw_privs_4']
theorem x_p1 {y : MethodName × Nat} (h : y ∈ lw_privs_1) : y ∈ lw_privs := List.mem_append_left _ h
theorem x_p2 {y : MethodName × Nat} (h : y ∈ lw_privs_2) : y ∈ lw_privs := List.mem_append_right _ (List.mem_append_left _ h)
theorem x_p3 {y : MethodName × Nat} (h : y ∈ lw_privs_3) : y ∈ lw_privs := List.mem_append_right _ (List.mem_append_right _ (List.mem_append_left _ h))
theorem x_p4 {y : MethodName × Nat} (h : y ∈ lw_privs_4) : y ∈ lw_privs := List.mem_append_right _ (List.mem_append_right _ (List.mem_append_right _ (h)))
theorem x_sel {q : MethodName × Nat} (h : q ∈ lw_privs) : Cond.selects q.1.cls q.1 q.1 ∈ x_Wd := List.mem_append_left _ (List.mem_filter.mpr ⟨List.mem_append_left _ (List.mem_map.mpr ⟨q, h, rfl⟩), rfl⟩)
