/-! every instruction is monotone in what comes behind it -/
theorem xm_push {v : XV} {n : Nat} : XMon (X_push v n) := by
  intro K K' P P' pc L st S u w hK hP h
  exact hK _ _ _ _ _ _ h
theorem xm_goto {n : Nat} : XMon (X_goto n) := by
  intro K K' P P' pc L st S u w hK hP h
  exact hK _ _ _ _ _ _ h
theorem xm_iload {i n : Nat} : XMon (X_iload i n) := by
  intro K K' P P' pc L st S u w hK hP h
  unfold X_iload at h ⊢
  split at h
  · next x hq =>
        exact hK _ _ _ _ _ _ h
  · exact h.elim
theorem xm_aload {i n : Nat} : XMon (X_aload i n) := by
  intro K K' P P' pc L st S u w hK hP h
  unfold X_aload at h ⊢
  split at h
  · next x hq =>
        exact hK _ _ _ _ _ _ h
  · exact h.elim
theorem xm_iinc {i : Nat} {d : Int32} : XMon (X_iinc i d) := by
  intro K K' P P' pc L st S u w hK hP h
  unfold X_iinc at h ⊢
  split at h
  · next x hq =>
        exact hK _ _ _ _ _ _ h
  · exact h.elim
theorem xm_istore {i n : Nat} : XMon (X_istore i n) := by
  intro K K' P P' pc L st S u w hK hP h
  unfold X_istore at h ⊢
  split at h
  · exact hK _ _ _ _ _ _ h
  · exact h.elim
theorem xm_astore {i n : Nat} : XMon (X_astore i n) := by
  intro K K' P P' pc L st S u w hK hP h
  unfold X_astore at h ⊢
  split at h
  · exact hK _ _ _ _ _ _ h
  · exact h.elim
theorem xm_bin {f : Int32 → Int32 → Int32} : XMon (X_bin f) := by
  intro K K' P P' pc L st S u w hK hP h
  unfold X_bin at h ⊢
  split at h
  · exact hK _ _ _ _ _ _ h
  · exact h.elim
theorem xm_div  : XMon (X_div) := by
  intro K K' P P' pc L st S u w hK hP h
  unfold X_div at h ⊢
  split at h
  · exact ⟨h.1, hK _ _ _ _ _ _ h.2⟩
  · exact h.elim
theorem xm_rem  : XMon (X_rem) := by
  intro K K' P P' pc L st S u w hK hP h
  unfold X_rem at h ⊢
  split at h
  · exact ⟨h.1, hK _ _ _ _ _ _ h.2⟩
  · exact h.elim
theorem xm_un {f : Int32 → Int32} : XMon (X_un f) := by
  intro K K' P P' pc L st S u w hK hP h
  unfold X_un at h ⊢
  split at h
  · exact hK _ _ _ _ _ _ h
  · exact h.elim
theorem xm_i2l  : XMon (X_i2l) := by
  intro K K' P P' pc L st S u w hK hP h
  unfold X_i2l at h ⊢
  split at h
  · exact hK _ _ _ _ _ _ h
  · exact h.elim
theorem xm_lcmp  : XMon (X_lcmp) := by
  intro K K' P P' pc L st S u w hK hP h
  unfold X_lcmp at h ⊢
  split at h
  · exact hK _ _ _ _ _ _ h
  · exact h.elim
theorem xm_if {f : Int32 → Prop} {n : Nat} : XMon (X_if f n) := by
  intro K K' P P' pc L st S u w hK hP h
  unfold X_if at h ⊢
  split at h
  · exact ⟨fun q => hK _ _ _ _ _ _ (h.1 q), fun q => hK _ _ _ _ _ _ (h.2 q)⟩
  · exact h.elim
theorem xm_icmp {f : Int32 → Int32 → Prop} {n : Nat} : XMon (X_icmp f n) := by
  intro K K' P P' pc L st S u w hK hP h
  unfold X_icmp at h ⊢
  split at h
  · exact ⟨fun q => hK _ _ _ _ _ _ (h.1 q), fun q => hK _ _ _ _ _ _ (h.2 q)⟩
  · exact h.elim
theorem xm_acmp {f : Prop → Prop} {n : Nat} : XMon (X_acmp f n) := by
  intro K K' P P' pc L st S u w hK hP h
  unfold X_acmp at h ⊢
  split at h
  · exact ⟨h.1, fun q => hK _ _ _ _ _ _ (h.2.1 q), fun q => hK _ _ _ _ _ _ (h.2.2 q)⟩
  · exact h.elim
theorem xm_vret  : XMon (X_vret) := by
  intro K K' P P' pc L st S u w hK hP h
  unfold X_vret at h ⊢
  split at h
  · exact hP _ _ h
  · exact h.elim
theorem xm_iret  : XMon (X_iret) := by
  intro K K' P P' pc L st S u w hK hP h
  unfold X_iret at h ⊢
  split at h
  · exact hP _ _ h
  · exact h.elim
theorem xm_zret  : XMon (X_zret) := by
  intro K K' P P' pc L st S u w hK hP h
  unfold X_zret at h ⊢
  split at h
  · exact ⟨h.1, hP _ _ h.2⟩
  · exact h.elim
theorem xm_aret  : XMon (X_aret) := by
  intro K K' P P' pc L st S u w hK hP h
  unfold X_aret at h ⊢
  split at h
  · exact hP _ _ h
  · exact h.elim
theorem xm_get {c k : Nat} : XMon (X_get c k) := by
  intro K K' P P' pc L st S u w hK hP h
  unfold X_get at h ⊢
  split at h
  · obtain ⟨e0, fs, v, e1, e2, h⟩ := h
    exact ⟨e0, fs, v, e1, e2, hK _ _ _ _ _ _ h⟩
  · exact h.elim
theorem xm_put {f : XV → Prop} {c k : Nat} : XMon (X_put f c k) := by
  intro K K' P P' pc L st S u w hK hP h
  unfold X_put at h ⊢
  split at h
  · obtain ⟨h0, fs, e1, e2, e3, h⟩ := h
    exact ⟨h0, fs, e1, e2, e3, hK _ _ _ _ _ _ h⟩
  · exact h.elim
theorem xm_newa {q b n : Nat} {z : XA} : XMon (X_newa q b z n) := by
  intro K K' P P' pc L st S u w hK hP h
  unfold X_newa at h ⊢
  split at h
  · obtain ⟨a1, a2, a3, a4, k, i, e1, e2, h⟩ := h
    exact ⟨a1, a2, a3, a4, k, i, e1, e2, hK _ _ _ _ _ _ h⟩
  · exact h.elim
theorem xm_ald {q : Nat} : XMon (X_ald q) := by
  intro K K' P P' pc L st S u w hK hP h
  unfold X_ald at h ⊢
  split at h
  · obtain ⟨n, f, e1, e2, h⟩ := h
    exact ⟨n, f, e1, e2, hK _ _ _ _ _ _ h⟩
  · exact h.elim
theorem xm_lald {q : Nat} : XMon (X_lald q) := by
  intro K K' P P' pc L st S u w hK hP h
  unfold X_lald at h ⊢
  split at h
  · obtain ⟨e0, n, f, e1, e2, h⟩ := h
    exact ⟨e0, n, f, e1, e2, hK _ _ _ _ _ _ h⟩
  · exact h.elim
theorem xm_aald {q : Nat} : XMon (X_aald q) := by
  intro K K' P P' pc L st S u w hK hP h
  unfold X_aald at h ⊢
  split at h
  · obtain ⟨e0, n, f, e1, e2, h⟩ := h
    exact ⟨e0, n, f, e1, e2, hK _ _ _ _ _ _ h⟩
  · exact h.elim
theorem xm_alen  : XMon (X_alen) := by
  intro K K' P P' pc L st S u w hK hP h
  unfold X_alen at h ⊢
  split at h
  · obtain ⟨q, n, z, e1, e2, h⟩ := h
    exact ⟨q, n, z, e1, e2, hK _ _ _ _ _ _ h⟩
  · exact h.elim
theorem xm_ast {q : Nat} {g : Int32 → Int32} : XMon (X_ast q g) := by
  intro K K' P P' pc L st S u w hK hP h
  unfold X_ast at h ⊢
  split at h
  · obtain ⟨n, f, e1, e2, e3, h⟩ := h
    exact ⟨n, f, e1, e2, e3, hK _ _ _ _ _ _ h⟩
  · exact h.elim
theorem xm_last {q : Nat} : XMon (X_last q) := by
  intro K K' P P' pc L st S u w hK hP h
  unfold X_last at h ⊢
  split at h
  · obtain ⟨n, f, e1, e2, e3, h⟩ := h
    exact ⟨n, f, e1, e2, e3, hK _ _ _ _ _ _ h⟩
  · exact h.elim
theorem xm_aast {q c : Nat} : XMon (X_aast q c) := by
  intro K K' P P' pc L st S u w hK hP h
  unfold X_aast at h ⊢
  split at h
  · obtain ⟨n, f, fs, e1, e2, e3, e4, e5, h⟩ := h
    exact ⟨n, f, fs, e1, e2, e3, e4, e5, hK _ _ _ _ _ _ h⟩
  · exact h.elim
theorem xm_obj  : XMon (X_obj) := by
  intro K K' P P' pc L st S u w hK hP h
  unfold X_obj at h ⊢
  split at h
  · exact ⟨h.1, hK _ _ _ _ _ _ h.2⟩
  · exact h.elim
theorem xm_ifnull {n : Nat} : XMon (X_ifnull n) := by
  intro K K' P P' pc L st S u w hK hP h
  unfold X_ifnull at h ⊢
  split at h
  · exact hK _ _ _ _ _ _ h
  · exact hK _ _ _ _ _ _ h
  · exact h.elim
theorem xm_ifnonnull {n : Nat} : XMon (X_ifnonnull n) := by
  intro K K' P P' pc L st S u w hK hP h
  unfold X_ifnonnull at h ⊢
  split at h
  · exact hK _ _ _ _ _ _ h
  · exact hK _ _ _ _ _ _ h
  · exact h.elim
theorem xm_dup : XMon X_dup := by
  intro K K' P P' pc L st S u w hK hP h
  unfold X_dup at h ⊢
  split at h
  · split at h
    · next hq =>
            exact hK _ _ _ _ _ _ h
    · exact h.elim
  · exact h.elim
theorem xm_pop : XMon X_pop := by
  intro K K' P P' pc L st S u w hK hP h
  unfold X_pop at h ⊢
  split at h
  · split at h
    · next hq =>
            exact hK _ _ _ _ _ _ h
    · exact h.elim
  · exact h.elim
theorem xm_dup_x1 : XMon X_dup_x1 := by
  intro K K' P P' pc L st S u w hK hP h
  unfold X_dup_x1 at h ⊢
  split at h
  · split at h
    · next hq =>
            exact hK _ _ _ _ _ _ h
    · exact h.elim
  · exact h.elim
theorem xm_dup_x2 : XMon X_dup_x2 := by
  intro K K' P P' pc L st S u w hK hP h
  unfold X_dup_x2 at h ⊢
  split at h
  · split at h
    · next hq =>
            exact hK _ _ _ _ _ _ h
    · exact h.elim
  · exact h.elim
theorem xm_dup2 : XMon X_dup2 := by
  intro K K' P P' pc L st S u w hK hP h
  unfold X_dup2 at h ⊢
  split at h
  · split at h
    · next hq =>
            exact hK _ _ _ _ _ _ h
    · exact h.elim
  · exact h.elim
theorem xm_new {c n : Nat} {d : List XV} : XMon (X_new c n d) := by
  intro K K' P P' pc L st S u w hK hP h
  obtain ⟨a1, a2, k, i, e1, e2, h⟩ := h
  exact ⟨a1, a2, k, i, e1, e2, hK _ _ _ _ _ _ h⟩
def x_Ymn (Y : XMeth) : Prop := ∀ (mc ms : Nat) (vs : List XV) (S : XH) (P P' : XP), (∀ r S, P r S → P' r S) → Y mc ms vs S P → Y mc ms vs S P'
theorem x_ymn_of {nL : Nat} {b : XB} (hb : x_bmn b) : x_Ymn (x_do nL b) := fun _ _ _ _ _ _ hP h => x_go.mono hb hP h
theorem x_aft_mono {K K' : XK} {P P' : XP} {hs : List (Nat × Nat)} {pc : Nat} {L : List (Option XV)} {rest : List XV} {u w : Nat} (hK : ∀ pc L st S u w, K pc L st S u w → K' pc L st S u w) (hP : ∀ r S, P r S → P' r S) : ∀ r S, x_aft K P hs pc L rest u w r S → x_aft K' P' hs pc L rest u w r S := by
  intro r S h
  cases r with
  | inl v => exact hK _ _ _ _ _ _ h
  | inr q => cases hs with
    | nil => exact hP _ _ h
    | cons a b =>
      obtain ⟨ci, fs, h', e1, e2, e3, k⟩ := h
      exact ⟨ci, fs, h', e1, e2, e3, hK _ _ _ _ _ _ k⟩
theorem xm_invS {Y : XMeth} (hY : x_Ymn Y) {n : Nat} {hs : List (Nat × Nat)} : XMon (X_invS Y n hs) := by
  intro K K' P P' pc L st S u w hK hP h
  obtain ⟨a1, a2, a3, mc, ms, e1, e2, h⟩ := h
  exact ⟨a1, a2, a3, mc, ms, e1, e2, hY _ _ _ _ _ _ (x_aft_mono hK hP) h⟩
theorem xm_invI {Y : XMeth} (hY : x_Ymn Y) {n : Nat} {hs : List (Nat × Nat)} : XMon (X_invI Y n hs) := by
  intro K K' P P' pc L st S u w hK hP h
  unfold X_invI at h ⊢
  split at h
  · next q rest heq =>
    try rw [heq]
    obtain ⟨a2, a3, mc, ms, e1, e2, h⟩ := h
    exact ⟨a2, a3, mc, ms, e1, e2, hY _ _ _ _ _ _ (x_aft_mono hK hP) h⟩
  · exact h.elim
theorem xm_invV {ci : Nat} {Y : XMeth} (hY : x_Ymn Y) {n : Nat} {hs : List (Nat × Nat)} : XMon (X_invV ci Y n hs) := by
  intro K K' P P' pc L st S u w hK hP h
  unfold X_invV at h ⊢
  split at h
  · next q rest heq =>
    try rw [heq]
    obtain ⟨a0, a1, a2, a3, mc, ms, e1, e2, h⟩ := h
    exact ⟨a0, a1, a2, a3, mc, ms, e1, e2, hY _ _ _ _ _ _ (x_aft_mono hK hP) h⟩
  · exact h.elim
