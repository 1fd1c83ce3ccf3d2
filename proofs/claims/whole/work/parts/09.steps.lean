/-! instructions as wp transformers, and that each is sound -/
section XS
variable {M : XM} {pc : Nat}

/-- a constant (an int, null, a long) -/
def X_push (v : XV) (n : Nat) : XI := fun K _ pc L st S u w => K (pc + n) L (v :: st) S u w
theorem xs_iconst {n : Int} {v : Int32} (hd : decode M.2.1 pc = .ok (.iconst n, 1)) (hv : Int32.ofInt n = v) : XSnd M pc (X_push (xv_i v) 1) := by
  intro G p l e R s m args below meth c P t0 S0 htr0 hC K hK L st S u w h t H locs ls cells slots h1 h2 h3 h4 h5 h6 h7 h8 h9
  exact lv_iconst hC.1 hC.2.1 hd hv (hK _ _ _ _ _ _ h t H locs ls cells slots h1 h2 h3 h4 h5 h6 (x_oks.cons trivial h7) h8 h9)
theorem xs_bipush {n : Int} {v : Int32} (hd : decode M.2.1 pc = .ok (.bipush n, 2)) (hv : (Int8.ofInt n).toInt32 = v) : XSnd M pc (X_push (xv_i v) 2) := by
  intro G p l e R s m args below meth c P t0 S0 htr0 hC K hK L st S u w h t H locs ls cells slots h1 h2 h3 h4 h5 h6 h7 h8 h9
  exact lv_bipush hC.1 hC.2.1 hd hv (hK _ _ _ _ _ _ h t H locs ls cells slots h1 h2 h3 h4 h5 h6 (x_oks.cons trivial h7) h8 h9)
theorem xs_sipush {n : Int} {v : Int32} (hd : decode M.2.1 pc = .ok (.sipush n, 3)) (hv : (Int16.ofInt n).toInt32 = v) : XSnd M pc (X_push (xv_i v) 3) := by
  intro G p l e R s m args below meth c P t0 S0 htr0 hC K hK L st S u w h t H locs ls cells slots h1 h2 h3 h4 h5 h6 h7 h8 h9
  exact lv_sipush hC.1 hC.2.1 hd hv (hK _ _ _ _ _ _ h t H locs ls cells slots h1 h2 h3 h4 h5 h6 (x_oks.cons trivial h7) h8 h9)
theorem xs_lconst {n : Fin 2} {v : Int64} (hd : decode M.2.1 pc = .ok (.lconst n, 1)) (hv : Int64.ofNat (n : Nat) = v) : XSnd M pc (X_push (xv_l v) 1) := by
  intro G p l e R s m args below meth c P t0 S0 htr0 hC K hK L st S u w h t H locs ls cells slots h1 h2 h3 h4 h5 h6 h7 h8 h9
  exact lv_lconst hC.1 hC.2.1 hd hv (hK _ _ _ _ _ _ h t H locs ls cells slots h1 h2 h3 h4 h5 h6 (x_oks.cons trivial h7) h8 h9)
theorem xs_null  (hd : decode M.2.1 pc = .ok (.aconst_null, 1))  : XSnd M pc (X_push xv_n 1) := by
  intro G p l e R s m args below meth c P t0 S0 htr0 hC K hK L st S u w h t H locs ls cells slots h1 h2 h3 h4 h5 h6 h7 h8 h9
  exact lv_null hC.1 hC.2.1 hd (hK _ _ _ _ _ _ h t H locs ls cells slots h1 h2 h3 h4 h5 h6 (x_oks.cons trivial h7) h8 h9)
theorem xs_ldc {i : Nat} {v : Int32} (hd : decode M.2.1 pc = .ok (.ldc i, 2)) (hw : Cond.constant M.1 i v ∈ x_Wd) : XSnd M pc (X_push (xv_i v) 2) := by
  intro G p l e R s m args below meth c P t0 S0 htr0 hC K hK L st S u w h t H locs ls cells slots h1 h2 h3 h4 h5 h6 h7 h8 h9
  exact lv_ldc hC.1 hC.2.1 hC.2.2.2.2.1 (hC.2.2.2.2.2.1 _ hw) hd (hK _ _ _ _ _ _ h t H locs ls cells slots h1 h2 h3 h4 h5 h6 (x_oks.cons trivial h7) h8 h9)
def X_iload (i n : Nat) : XI := fun K _ pc L st S u w => match L[i]? with
  | some (some (.inl x)) => K (pc + n) L (.inl x :: st) S u w
  | _ => False
def X_aload (i n : Nat) : XI := fun K _ pc L st S u w => match L[i]? with
  | some (some (.inr (.inr r))) => K (pc + n) L (.inr (.inr r) :: st) S u w
  | _ => False
theorem xs_iload_n {i : Nat} {k : Fin 4} (hd : decode M.2.1 pc = .ok (.iload_n k, 1)) (hi : (k : Nat) = i) : XSnd M pc (X_iload i 1) := by
  intro G p l e R s m args below meth c P t0 S0 htr0 hC K hK L st S u w h t H locs ls cells slots h1 h2 h3 h4 h5 h6 h7 h8 h9
  unfold X_iload at h
  split at h
  · next x hq => exact lv_iload_n hC.1 hC.2.1 hd hi (h5.at hq) (hK _ _ _ _ _ _ h t H locs ls cells slots h1 h2 h3 h4 h5 h6 (x_oks.cons trivial h7) h8 h9)
  · exact h.elim
theorem xs_iload {i : Nat}  (hd : decode M.2.1 pc = .ok (.iload i, 2))  : XSnd M pc (X_iload i 2) := by
  intro G p l e R s m args below meth c P t0 S0 htr0 hC K hK L st S u w h t H locs ls cells slots h1 h2 h3 h4 h5 h6 h7 h8 h9
  unfold X_iload at h
  split at h
  · next x hq => exact lv_iload hC.1 hC.2.1 hd (h5.at hq) (hK _ _ _ _ _ _ h t H locs ls cells slots h1 h2 h3 h4 h5 h6 (x_oks.cons trivial h7) h8 h9)
  · exact h.elim
theorem xs_aload_n {i : Nat} {k : Fin 4} (hd : decode M.2.1 pc = .ok (.aload_n k, 1)) (hi : (k : Nat) = i) : XSnd M pc (X_aload i 1) := by
  intro G p l e R s m args below meth c P t0 S0 htr0 hC K hK L st S u w h t H locs ls cells slots h1 h2 h3 h4 h5 h6 h7 h8 h9
  unfold X_aload at h
  split at h
  · next r hq =>
    have k := hK _ _ _ _ _ _ h t H locs ls cells slots h1 h2 h3 h4 h5 h6 (x_oks.cons (h6 _ (List.mem_of_getElem? hq)) h7) h8 h9
    cases r with
    | none => exact lv_aload_nN hC.1 hC.2.1 hd hi (h5.at hq) k
    | some r => exact lv_aload_n hC.1 hC.2.1 hd hi (h5.at hq) k
  · exact h.elim
theorem xs_aload {i : Nat}  (hd : decode M.2.1 pc = .ok (.aload i, 2))  : XSnd M pc (X_aload i 2) := by
  intro G p l e R s m args below meth c P t0 S0 htr0 hC K hK L st S u w h t H locs ls cells slots h1 h2 h3 h4 h5 h6 h7 h8 h9
  unfold X_aload at h
  split at h
  · next r hq =>
    have k := hK _ _ _ _ _ _ h t H locs ls cells slots h1 h2 h3 h4 h5 h6 (x_oks.cons (h6 _ (List.mem_of_getElem? hq)) h7) h8 h9
    cases r with
    | none => exact lv_aloadN hC.1 hC.2.1 hd (h5.at hq) k
    | some r => exact lv_aload hC.1 hC.2.1 hd (h5.at hq) k
  · exact h.elim
def X_istore (i n : Nat) : XI := fun K _ pc L st S u w => match st with
  | .inl x :: r => K (pc + n) (L.set i (some (.inl x))) r S u w
  | _ => False
def X_astore (i n : Nat) : XI := fun K _ pc L st S u w => match st with
  | .inr (.inr x) :: r => K (pc + n) (L.set i (some (.inr (.inr x)))) r S u w
  | _ => False
def X_iinc (i : Nat) (d : Int32) : XI := fun K _ pc L st S u w => match L[i]? with
  | some (some (.inl x)) => K (pc + 3) (L.set i (some (.inl (x + d)))) st S u w
  | _ => False
theorem xs_istore_n {i : Nat} {k : Fin 4} (hd : decode M.2.1 pc = .ok (.istore_n k, 1)) (hi : (k : Nat) = i) (hn : i < M.2.2.1) : XSnd M pc (X_istore i 1) := by
  intro G p l e R s m args below meth c P t0 S0 htr0 hC K hK L st S u w h t H locs ls cells slots h1 h2 h3 h4 h5 h6 h7 h8 h9
  unfold X_istore at h
  split at h
  · next x r => exact lv_istore_n hC.1 hC.2.1 hd hi h5.1 hn rfl fun ls' hl => hK _ _ _ _ _ _ h t H locs ls' cells slots h1 h2 h3 h4 (x_L.set (v := xv_i x) h5.2 rfl hl) (h6.set trivial) h7.tl h8 h9
  · exact h.elim
theorem xs_istore {i : Nat}  (hd : decode M.2.1 pc = .ok (.istore i, 2))  (hn : i < M.2.2.1) : XSnd M pc (X_istore i 2) := by
  intro G p l e R s m args below meth c P t0 S0 htr0 hC K hK L st S u w h t H locs ls cells slots h1 h2 h3 h4 h5 h6 h7 h8 h9
  unfold X_istore at h
  split at h
  · next x r => exact lv_istore hC.1 hC.2.1 hd h5.1 hn rfl fun ls' hl => hK _ _ _ _ _ _ h t H locs ls' cells slots h1 h2 h3 h4 (x_L.set (v := xv_i x) h5.2 rfl hl) (h6.set trivial) h7.tl h8 h9
  · exact h.elim
theorem xs_astore_n {i : Nat} {k : Fin 4} (hd : decode M.2.1 pc = .ok (.astore_n k, 1)) (hi : (k : Nat) = i) (hn : i < M.2.2.1) : XSnd M pc (X_astore i 1) := by
  intro G p l e R s m args below meth c P t0 S0 htr0 hC K hK L st S u w h t H locs ls cells slots h1 h2 h3 h4 h5 h6 h7 h8 h9
  unfold X_astore at h
  split at h
  · next x r =>
    have k := fun ls' hl => hK _ _ _ _ _ _ h t H locs ls' cells slots h1 h2 h3 h4 (x_L.set (v := xv_o x) h5.2 rfl hl) (h6.set h7.hd) h7.tl h8 h9
    cases x with
    | none => exact lv_astore_nN hC.1 hC.2.1 hd hi h5.1 hn rfl k
    | some x => exact lv_astore_n hC.1 hC.2.1 hd hi h5.1 hn rfl k
  · exact h.elim
theorem xs_astore {i : Nat}  (hd : decode M.2.1 pc = .ok (.astore i, 2))  (hn : i < M.2.2.1) : XSnd M pc (X_astore i 2) := by
  intro G p l e R s m args below meth c P t0 S0 htr0 hC K hK L st S u w h t H locs ls cells slots h1 h2 h3 h4 h5 h6 h7 h8 h9
  unfold X_astore at h
  split at h
  · next x r =>
    have k := fun ls' hl => hK _ _ _ _ _ _ h t H locs ls' cells slots h1 h2 h3 h4 (x_L.set (v := xv_o x) h5.2 rfl hl) (h6.set h7.hd) h7.tl h8 h9
    cases x with
    | none => exact lv_astoreN hC.1 hC.2.1 hd h5.1 hn rfl k
    | some x => exact lv_astore hC.1 hC.2.1 hd h5.1 hn rfl k
  · exact h.elim
theorem xs_iinc {i : Nat} {d : Int} {v : Int32} (hd : decode M.2.1 pc = .ok (.iinc i d, 3)) (hv : Int32.ofInt d = v) (hn : i < M.2.2.1) : XSnd M pc (X_iinc i v) := by
  intro G p l e R s m args below meth c P t0 S0 htr0 hC K hK L st S u w h t H locs ls cells slots h1 h2 h3 h4 h5 h6 h7 h8 h9
  subst hv
  unfold X_iinc at h
  split at h
  · next x hq =>
    obtain ⟨k, hk⟩ := List.getElem?_of_mem (x_pl_mem.mpr ⟨xv_i x, hq, rfl⟩ : (i, xz t (xv_i x)) ∈ x_pl t L)
    exact lv_iinc hC.1 hC.2.1 hd h5.1 hk rfl hn rfl fun ls' hl => hK _ _ _ _ _ _ h t H locs ls' cells slots h1 h2 h3 h4 (x_L.set (v := xv_i (x + Int32.ofInt d)) h5.2 rfl hl) (h6.set trivial) h7 h8 h9
  · exact h.elim
def X_bin (f : Int32 → Int32 → Int32) : XI := fun K _ pc L st S u w => match st with
  | .inl y :: .inl x :: r => K (pc + 1) L (.inl (f x y) :: r) S u w
  | _ => False
def X_div : XI := fun K _ pc L st S u w => match st with
  | .inl y :: .inl x :: r => ¬ y = 0 ∧ K (pc + 1) L (.inl (x / y) :: r) S u w
  | _ => False
def X_rem : XI := fun K _ pc L st S u w => match st with
  | .inl y :: .inl x :: r => ¬ y = 0 ∧ K (pc + 1) L (.inl (x - x / y * y) :: r) S u w
  | _ => False
theorem xs_iadd (hd : decode M.2.1 pc = .ok (.iadd, 1)) : XSnd M pc (X_bin (fun x y => x + y)) := by
  intro G p l e R s m args below meth c P t0 S0 htr0 hC K hK L st S u w h t H locs ls cells slots h1 h2 h3 h4 h5 h6 h7 h8 h9
  unfold X_bin at h
  split at h
  · exact lv_iadd hC.1 hC.2.1 hd (hK _ _ _ _ _ _ h t H locs ls cells slots h1 h2 h3 h4 h5 h6 (x_oks.cons trivial h7.tl.tl) h8 h9)
  · exact h.elim
theorem xs_isub (hd : decode M.2.1 pc = .ok (.isub, 1)) : XSnd M pc (X_bin (fun x y => x - y)) := by
  intro G p l e R s m args below meth c P t0 S0 htr0 hC K hK L st S u w h t H locs ls cells slots h1 h2 h3 h4 h5 h6 h7 h8 h9
  unfold X_bin at h
  split at h
  · exact lv_isub hC.1 hC.2.1 hd (hK _ _ _ _ _ _ h t H locs ls cells slots h1 h2 h3 h4 h5 h6 (x_oks.cons trivial h7.tl.tl) h8 h9)
  · exact h.elim
theorem xs_imul (hd : decode M.2.1 pc = .ok (.imul, 1)) : XSnd M pc (X_bin (fun x y => x * y)) := by
  intro G p l e R s m args below meth c P t0 S0 htr0 hC K hK L st S u w h t H locs ls cells slots h1 h2 h3 h4 h5 h6 h7 h8 h9
  unfold X_bin at h
  split at h
  · exact lv_imul hC.1 hC.2.1 hd (hK _ _ _ _ _ _ h t H locs ls cells slots h1 h2 h3 h4 h5 h6 (x_oks.cons trivial h7.tl.tl) h8 h9)
  · exact h.elim
theorem xs_iand (hd : decode M.2.1 pc = .ok (.iand, 1)) : XSnd M pc (X_bin (fun x y => x &&& y)) := by
  intro G p l e R s m args below meth c P t0 S0 htr0 hC K hK L st S u w h t H locs ls cells slots h1 h2 h3 h4 h5 h6 h7 h8 h9
  unfold X_bin at h
  split at h
  · exact lv_iand hC.1 hC.2.1 hd (hK _ _ _ _ _ _ h t H locs ls cells slots h1 h2 h3 h4 h5 h6 (x_oks.cons trivial h7.tl.tl) h8 h9)
  · exact h.elim
theorem xs_ior (hd : decode M.2.1 pc = .ok (.ior, 1)) : XSnd M pc (X_bin (fun x y => x ||| y)) := by
  intro G p l e R s m args below meth c P t0 S0 htr0 hC K hK L st S u w h t H locs ls cells slots h1 h2 h3 h4 h5 h6 h7 h8 h9
  unfold X_bin at h
  split at h
  · exact lv_ior hC.1 hC.2.1 hd (hK _ _ _ _ _ _ h t H locs ls cells slots h1 h2 h3 h4 h5 h6 (x_oks.cons trivial h7.tl.tl) h8 h9)
  · exact h.elim
theorem xs_ixor (hd : decode M.2.1 pc = .ok (.ixor, 1)) : XSnd M pc (X_bin (fun x y => x ^^^ y)) := by
  intro G p l e R s m args below meth c P t0 S0 htr0 hC K hK L st S u w h t H locs ls cells slots h1 h2 h3 h4 h5 h6 h7 h8 h9
  unfold X_bin at h
  split at h
  · exact lv_ixor hC.1 hC.2.1 hd (hK _ _ _ _ _ _ h t H locs ls cells slots h1 h2 h3 h4 h5 h6 (x_oks.cons trivial h7.tl.tl) h8 h9)
  · exact h.elim
theorem xs_ishl (hd : decode M.2.1 pc = .ok (.ishl, 1)) : XSnd M pc (X_bin (fun x y => x <<< (y &&& 31))) := by
  intro G p l e R s m args below meth c P t0 S0 htr0 hC K hK L st S u w h t H locs ls cells slots h1 h2 h3 h4 h5 h6 h7 h8 h9
  unfold X_bin at h
  split at h
  · exact lv_ishl hC.1 hC.2.1 hd (hK _ _ _ _ _ _ h t H locs ls cells slots h1 h2 h3 h4 h5 h6 (x_oks.cons trivial h7.tl.tl) h8 h9)
  · exact h.elim
theorem xs_ishr (hd : decode M.2.1 pc = .ok (.ishr, 1)) : XSnd M pc (X_bin (fun x y => x >>> (y &&& 31))) := by
  intro G p l e R s m args below meth c P t0 S0 htr0 hC K hK L st S u w h t H locs ls cells slots h1 h2 h3 h4 h5 h6 h7 h8 h9
  unfold X_bin at h
  split at h
  · exact lv_ishr hC.1 hC.2.1 hd (hK _ _ _ _ _ _ h t H locs ls cells slots h1 h2 h3 h4 h5 h6 (x_oks.cons trivial h7.tl.tl) h8 h9)
  · exact h.elim
theorem xs_idiv (hd : decode M.2.1 pc = .ok (.idiv, 1)) : XSnd M pc X_div := by
  intro G p l e R s m args below meth c P t0 S0 htr0 hC K hK L st S u w h t H locs ls cells slots h1 h2 h3 h4 h5 h6 h7 h8 h9
  unfold X_div at h
  split at h
  · exact lv_idiv hC.1 hC.2.1 hd h.1 (hK _ _ _ _ _ _ h.2 t H locs ls cells slots h1 h2 h3 h4 h5 h6 (x_oks.cons trivial h7.tl.tl) h8 h9)
  · exact h.elim
theorem xs_irem (hd : decode M.2.1 pc = .ok (.irem, 1)) : XSnd M pc X_rem := by
  intro G p l e R s m args below meth c P t0 S0 htr0 hC K hK L st S u w h t H locs ls cells slots h1 h2 h3 h4 h5 h6 h7 h8 h9
  unfold X_rem at h
  split at h
  · exact lv_irem hC.1 hC.2.1 hd h.1 (hK _ _ _ _ _ _ h.2 t H locs ls cells slots h1 h2 h3 h4 h5 h6 (x_oks.cons trivial h7.tl.tl) h8 h9)
  · exact h.elim
def X_un (f : Int32 → Int32) : XI := fun K _ pc L st S u w => match st with
  | .inl x :: r => K (pc + 1) L (.inl (f x) :: r) S u w
  | _ => False
def X_i2l : XI := fun K _ pc L st S u w => match st with
  | .inl x :: r => K (pc + 1) L (.inr (.inl x.toInt64) :: r) S u w
  | _ => False
def X_lcmp : XI := fun K _ pc L st S u w => match st with
  | .inr (.inl y) :: .inr (.inl x) :: r => K (pc + 1) L (.inl (lg_cmp x y) :: r) S u w
  | _ => False
def X_dup : XI := fun K _ pc L st S u w => match st with
  | a :: r => match x_c1 a with
    | true => K (pc + 1) L (a :: a :: r) S u w
    | false => False
  | _ => False
def X_pop : XI := fun K _ pc L st S u w => match st with
  | a :: r => match x_c1 a with
    | true => K (pc + 1) L r S u w
    | false => False
  | _ => False
def X_dup_x1 : XI := fun K _ pc L st S u w => match st with
  | a :: b :: r => match x_c1 a && x_c1 b with
    | true => K (pc + 1) L (a :: b :: a :: r) S u w
    | false => False
  | _ => False
def X_dup_x2 : XI := fun K _ pc L st S u w => match st with
  | a :: b :: d :: r => match x_c1 a && (x_c1 b && x_c1 d) with
    | true => K (pc + 1) L (a :: b :: d :: a :: r) S u w
    | false => False
  | _ => False
def X_dup2 : XI := fun K _ pc L st S u w => match st with
  | a :: b :: r => match x_c1 a && x_c1 b with
    | true => K (pc + 1) L (a :: b :: a :: b :: r) S u w
    | false => False
  | _ => False
theorem xs_ineg (hd : decode M.2.1 pc = .ok (.ineg, 1)) : XSnd M pc (X_un (fun x => -x)) := by
  intro G p l e R s m args below meth c P t0 S0 htr0 hC K hK L st S u w h t H locs ls cells slots h1 h2 h3 h4 h5 h6 h7 h8 h9
  unfold X_un at h
  split at h
  · exact lv_ineg hC.1 hC.2.1 hd (hK _ _ _ _ _ _ h t H locs ls cells slots h1 h2 h3 h4 h5 h6 (x_oks.cons trivial h7.tl) h8 h9)
  · exact h.elim
theorem xs_i2c (hd : decode M.2.1 pc = .ok (.i2c, 1)) : XSnd M pc (X_un (fun x => (x.toUInt32 % 65536).toInt32)) := by
  intro G p l e R s m args below meth c P t0 S0 htr0 hC K hK L st S u w h t H locs ls cells slots h1 h2 h3 h4 h5 h6 h7 h8 h9
  unfold X_un at h
  split at h
  · exact lv_i2c hC.1 hC.2.1 hd rfl (hK _ _ _ _ _ _ h t H locs ls cells slots h1 h2 h3 h4 h5 h6 (x_oks.cons trivial h7.tl) h8 h9)
  · exact h.elim
theorem xs_i2b (hd : decode M.2.1 pc = .ok (.i2b, 1)) : XSnd M pc (X_un (fun x => x.toInt8.toInt32)) := by
  intro G p l e R s m args below meth c P t0 S0 htr0 hC K hK L st S u w h t H locs ls cells slots h1 h2 h3 h4 h5 h6 h7 h8 h9
  unfold X_un at h
  split at h
  · exact lv_i2b hC.1 hC.2.1 hd rfl (hK _ _ _ _ _ _ h t H locs ls cells slots h1 h2 h3 h4 h5 h6 (x_oks.cons trivial h7.tl) h8 h9)
  · exact h.elim
theorem xs_i2l (hd : decode M.2.1 pc = .ok (.i2l, 1)) : XSnd M pc X_i2l := by
  intro G p l e R s m args below meth c P t0 S0 htr0 hC K hK L st S u w h t H locs ls cells slots h1 h2 h3 h4 h5 h6 h7 h8 h9
  unfold X_i2l at h
  split at h
  · exact lv_i2l hC.1 hC.2.1 hd rfl (hK _ _ _ _ _ _ h t H locs ls cells slots h1 h2 h3 h4 h5 h6 (x_oks.cons trivial h7.tl) h8 h9)
  · exact h.elim
theorem xs_lcmp (hd : decode M.2.1 pc = .ok (.lcmp, 1)) : XSnd M pc X_lcmp := by
  intro G p l e R s m args below meth c P t0 S0 htr0 hC K hK L st S u w h t H locs ls cells slots h1 h2 h3 h4 h5 h6 h7 h8 h9
  unfold X_lcmp at h
  split at h
  · exact W.lcmp hC.1 hC.2.1 hd (hK _ _ _ _ _ _ h t H locs ls cells slots h1 h2 h3 h4 h5 h6 (x_oks.cons trivial h7.tl.tl) h8 h9)
  · exact h.elim
theorem xs_dup (hd : decode M.2.1 pc = .ok (.dup, 1)) : XSnd M pc X_dup := by
  intro G p l e R s m args below meth c P t0 S0 htr0 hC K hK L st S u w h t H locs ls cells slots h1 h2 h3 h4 h5 h6 h7 h8 h9
  unfold X_dup at h
  split at h
  · split at h
    · next a r ha => exact lv_dup hC.1 hC.2.1 hd (x_c1_cat ha) (hK _ _ _ _ _ _ h t H locs ls cells slots h1 h2 h3 h4 h5 h6 (x_oks.cons h7.hd h7) h8 h9)
    · exact h.elim
  · exact h.elim
theorem xs_pop (hd : decode M.2.1 pc = .ok (.pop, 1)) : XSnd M pc X_pop := by
  intro G p l e R s m args below meth c P t0 S0 htr0 hC K hK L st S u w h t H locs ls cells slots h1 h2 h3 h4 h5 h6 h7 h8 h9
  unfold X_pop at h
  split at h
  · split at h
    · next a r ha => exact lv_pop hC.1 hC.2.1 hd (x_c1_cat ha) (hK _ _ _ _ _ _ h t H locs ls cells slots h1 h2 h3 h4 h5 h6 h7.tl h8 h9)
    · exact h.elim
  · exact h.elim
theorem xs_dup_x1 (hd : decode M.2.1 pc = .ok (.dup_x1, 1)) : XSnd M pc X_dup_x1 := by
  intro G p l e R s m args below meth c P t0 S0 htr0 hC K hK L st S u w h t H locs ls cells slots h1 h2 h3 h4 h5 h6 h7 h8 h9
  unfold X_dup_x1 at h
  split at h
  · split at h
    · next a b r ha =>
      rw [Bool.and_eq_true] at ha
      exact lv_dup_x1 hC.1 hC.2.1 hd (x_c1_cat ha.1) (x_c1_cat ha.2) (hK _ _ _ _ _ _ h t H locs ls cells slots h1 h2 h3 h4 h5 h6 (x_oks.cons h7.hd (x_oks.cons h7.tl.hd (x_oks.cons h7.hd h7.tl.tl))) h8 h9)
    · exact h.elim
  · exact h.elim
theorem xs_dup_x2 (hd : decode M.2.1 pc = .ok (.dup_x2, 1)) : XSnd M pc X_dup_x2 := by
  intro G p l e R s m args below meth c P t0 S0 htr0 hC K hK L st S u w h t H locs ls cells slots h1 h2 h3 h4 h5 h6 h7 h8 h9
  unfold X_dup_x2 at h
  split at h
  · split at h
    · next a b d r ha =>
      rw [Bool.and_eq_true, Bool.and_eq_true] at ha
      exact lv_dup_x2 hC.1 hC.2.1 hd (x_c1_cat ha.1) (x_c1_cat ha.2.1) (x_c1_cat ha.2.2) (hK _ _ _ _ _ _ h t H locs ls cells slots h1 h2 h3 h4 h5 h6 (x_oks.cons h7.hd (x_oks.cons h7.tl.hd (x_oks.cons h7.tl.tl.hd (x_oks.cons h7.hd h7.tl.tl.tl)))) h8 h9)
    · exact h.elim
  · exact h.elim
theorem xs_dup2 (hd : decode M.2.1 pc = .ok (.dup2, 1)) : XSnd M pc X_dup2 := by
  intro G p l e R s m args below meth c P t0 S0 htr0 hC K hK L st S u w h t H locs ls cells slots h1 h2 h3 h4 h5 h6 h7 h8 h9
  unfold X_dup2 at h
  split at h
  · split at h
    · next a b r ha =>
      rw [Bool.and_eq_true] at ha
      exact lv_dup2_11 hC.1 hC.2.1 hd (x_c1_cat ha.1) (x_c1_cat ha.2) (hK _ _ _ _ _ _ h t H locs ls cells slots h1 h2 h3 h4 h5 h6 (x_oks.cons h7.hd (x_oks.cons h7.tl.hd h7)) h8 h9)
    · exact h.elim
  · exact h.elim
def X_if (f : Int32 → Prop) (tgt : Nat) : XI := fun K _ pc L st S u w => match st with
  | .inl x :: r => (f x → K tgt L r S u w) ∧ (¬ f x → K (pc + 3) L r S u w)
  | _ => False
def X_icmp (f : Int32 → Int32 → Prop) (tgt : Nat) : XI := fun K _ pc L st S u w => match st with
  | .inl y :: .inl x :: r => (f x y → K tgt L r S u w) ∧ (¬ f x y → K (pc + 3) L r S u w)
  | _ => False
def X_goto (tgt : Nat) : XI := fun K _ _ L st S u w => K tgt L st S u w
def X_ifnull (tgt : Nat) : XI := fun K _ pc L st S u w => match st with
  | .inr (.inr none) :: r => K tgt L r S u w
  | .inr (.inr (some _)) :: r => K (pc + 3) L r S u w
  | _ => False
def X_ifnonnull (tgt : Nat) : XI := fun K _ pc L st S u w => match st with
  | .inr (.inr none) :: r => K (pc + 3) L r S u w
  | .inr (.inr (some _)) :: r => K tgt L r S u w
  | _ => False
/-- references that can be told apart -/
def x_cmp (x y : Option (Nat × Nat)) : Prop := match x, y with
  | some a, some b => (a.1 < 48 ∧ b.1 < 55) ∨ (b.1 < 48 ∧ a.1 < 55) ∨ (a.1 = b.1 ∧ (a.1 = 49 ∨ a.1 = 50 ∨ a.1 = 54 ∨ a.1 = 55))
  | _, _ => True
def X_acmp (f : Prop → Prop) (tgt : Nat) : XI := fun K _ pc L st S u w => match st with
  | .inr (.inr y) :: .inr (.inr x) :: r => x_cmp x y ∧ (f (x = y) → K tgt L r S u w) ∧ (¬ f (x = y) → K (pc + 3) L r S u w)
  | _ => False
theorem xs_if_eq {off : Int} {tgt : Nat} (hd : decode M.2.1 pc = .ok (.ifCond .eq off, 3)) (ht : (pc : Int) + off = (tgt : Int)) : XSnd M pc (X_if (fun x => x = 0) tgt) := by
  intro G p l e R s m args below meth c P t0 S0 htr0 hC K hK L st S u w h t H locs ls cells slots h1 h2 h3 h4 h5 h6 h7 h8 h9
  unfold X_if at h
  split at h
  · exact lv_if_eq hC.1 hC.2.1 hd ht (fun q => hK _ _ _ _ _ _ (h.1 q) t H locs ls cells slots h1 h2 h3 h4 h5 h6 h7.tl h8 h9) (fun q => hK _ _ _ _ _ _ (h.2 q) t H locs ls cells slots h1 h2 h3 h4 h5 h6 h7.tl h8 h9)
  · exact h.elim
theorem xs_if_ne {off : Int} {tgt : Nat} (hd : decode M.2.1 pc = .ok (.ifCond .ne off, 3)) (ht : (pc : Int) + off = (tgt : Int)) : XSnd M pc (X_if (fun x => ¬ x = 0) tgt) := by
  intro G p l e R s m args below meth c P t0 S0 htr0 hC K hK L st S u w h t H locs ls cells slots h1 h2 h3 h4 h5 h6 h7 h8 h9
  unfold X_if at h
  split at h
  · exact lv_if_ne hC.1 hC.2.1 hd ht (fun q => hK _ _ _ _ _ _ (h.1 q) t H locs ls cells slots h1 h2 h3 h4 h5 h6 h7.tl h8 h9) (fun q => hK _ _ _ _ _ _ (h.2 (fun z => z q)) t H locs ls cells slots h1 h2 h3 h4 h5 h6 h7.tl h8 h9)
  · exact h.elim
theorem xs_if_lt {off : Int} {tgt : Nat} (hd : decode M.2.1 pc = .ok (.ifCond .lt off, 3)) (ht : (pc : Int) + off = (tgt : Int)) : XSnd M pc (X_if (fun x => x < 0) tgt) := by
  intro G p l e R s m args below meth c P t0 S0 htr0 hC K hK L st S u w h t H locs ls cells slots h1 h2 h3 h4 h5 h6 h7 h8 h9
  unfold X_if at h
  split at h
  · exact lv_if_lt hC.1 hC.2.1 hd ht (fun q => hK _ _ _ _ _ _ (h.1 q) t H locs ls cells slots h1 h2 h3 h4 h5 h6 h7.tl h8 h9) (fun q => hK _ _ _ _ _ _ (h.2 q) t H locs ls cells slots h1 h2 h3 h4 h5 h6 h7.tl h8 h9)
  · exact h.elim
theorem xs_if_ge {off : Int} {tgt : Nat} (hd : decode M.2.1 pc = .ok (.ifCond .ge off, 3)) (ht : (pc : Int) + off = (tgt : Int)) : XSnd M pc (X_if (fun x => 0 ≤ x) tgt) := by
  intro G p l e R s m args below meth c P t0 S0 htr0 hC K hK L st S u w h t H locs ls cells slots h1 h2 h3 h4 h5 h6 h7 h8 h9
  unfold X_if at h
  split at h
  · exact lv_if_ge hC.1 hC.2.1 hd ht (fun q => hK _ _ _ _ _ _ (h.1 q) t H locs ls cells slots h1 h2 h3 h4 h5 h6 h7.tl h8 h9) (fun q => hK _ _ _ _ _ _ (h.2 q) t H locs ls cells slots h1 h2 h3 h4 h5 h6 h7.tl h8 h9)
  · exact h.elim
theorem xs_if_gt {off : Int} {tgt : Nat} (hd : decode M.2.1 pc = .ok (.ifCond .gt off, 3)) (ht : (pc : Int) + off = (tgt : Int)) : XSnd M pc (X_if (fun x => 0 < x) tgt) := by
  intro G p l e R s m args below meth c P t0 S0 htr0 hC K hK L st S u w h t H locs ls cells slots h1 h2 h3 h4 h5 h6 h7 h8 h9
  unfold X_if at h
  split at h
  · exact lv_if_gt hC.1 hC.2.1 hd ht (fun q => hK _ _ _ _ _ _ (h.1 q) t H locs ls cells slots h1 h2 h3 h4 h5 h6 h7.tl h8 h9) (fun q => hK _ _ _ _ _ _ (h.2 q) t H locs ls cells slots h1 h2 h3 h4 h5 h6 h7.tl h8 h9)
  · exact h.elim
theorem xs_if_le {off : Int} {tgt : Nat} (hd : decode M.2.1 pc = .ok (.ifCond .le off, 3)) (ht : (pc : Int) + off = (tgt : Int)) : XSnd M pc (X_if (fun x => x ≤ 0) tgt) := by
  intro G p l e R s m args below meth c P t0 S0 htr0 hC K hK L st S u w h t H locs ls cells slots h1 h2 h3 h4 h5 h6 h7 h8 h9
  unfold X_if at h
  split at h
  · exact lv_if_le hC.1 hC.2.1 hd ht (fun q => hK _ _ _ _ _ _ (h.1 q) t H locs ls cells slots h1 h2 h3 h4 h5 h6 h7.tl h8 h9) (fun q => hK _ _ _ _ _ _ (h.2 q) t H locs ls cells slots h1 h2 h3 h4 h5 h6 h7.tl h8 h9)
  · exact h.elim
theorem xs_icmp_eq {off : Int} {tgt : Nat} (hd : decode M.2.1 pc = .ok (.if_icmp .eq off, 3)) (ht : (pc : Int) + off = (tgt : Int)) : XSnd M pc (X_icmp (fun x y => x = y) tgt) := by
  intro G p l e R s m args below meth c P t0 S0 htr0 hC K hK L st S u w h t H locs ls cells slots h1 h2 h3 h4 h5 h6 h7 h8 h9
  unfold X_icmp at h
  split at h
  · exact lv_icmp_eq hC.1 hC.2.1 hd ht (fun q => hK _ _ _ _ _ _ (h.1 q) t H locs ls cells slots h1 h2 h3 h4 h5 h6 h7.tl.tl h8 h9) (fun q => hK _ _ _ _ _ _ (h.2 q) t H locs ls cells slots h1 h2 h3 h4 h5 h6 h7.tl.tl h8 h9)
  · exact h.elim
theorem xs_icmp_ne {off : Int} {tgt : Nat} (hd : decode M.2.1 pc = .ok (.if_icmp .ne off, 3)) (ht : (pc : Int) + off = (tgt : Int)) : XSnd M pc (X_icmp (fun x y => ¬ x = y) tgt) := by
  intro G p l e R s m args below meth c P t0 S0 htr0 hC K hK L st S u w h t H locs ls cells slots h1 h2 h3 h4 h5 h6 h7 h8 h9
  unfold X_icmp at h
  split at h
  · exact lv_icmp_ne hC.1 hC.2.1 hd ht (fun q => hK _ _ _ _ _ _ (h.1 q) t H locs ls cells slots h1 h2 h3 h4 h5 h6 h7.tl.tl h8 h9) (fun q => hK _ _ _ _ _ _ (h.2 (fun z => z q)) t H locs ls cells slots h1 h2 h3 h4 h5 h6 h7.tl.tl h8 h9)
  · exact h.elim
theorem xs_icmp_lt {off : Int} {tgt : Nat} (hd : decode M.2.1 pc = .ok (.if_icmp .lt off, 3)) (ht : (pc : Int) + off = (tgt : Int)) : XSnd M pc (X_icmp (fun x y => x < y) tgt) := by
  intro G p l e R s m args below meth c P t0 S0 htr0 hC K hK L st S u w h t H locs ls cells slots h1 h2 h3 h4 h5 h6 h7 h8 h9
  unfold X_icmp at h
  split at h
  · exact lv_icmp_lt hC.1 hC.2.1 hd ht (fun q => hK _ _ _ _ _ _ (h.1 q) t H locs ls cells slots h1 h2 h3 h4 h5 h6 h7.tl.tl h8 h9) (fun q => hK _ _ _ _ _ _ (h.2 q) t H locs ls cells slots h1 h2 h3 h4 h5 h6 h7.tl.tl h8 h9)
  · exact h.elim
theorem xs_icmp_ge {off : Int} {tgt : Nat} (hd : decode M.2.1 pc = .ok (.if_icmp .ge off, 3)) (ht : (pc : Int) + off = (tgt : Int)) : XSnd M pc (X_icmp (fun x y => y ≤ x) tgt) := by
  intro G p l e R s m args below meth c P t0 S0 htr0 hC K hK L st S u w h t H locs ls cells slots h1 h2 h3 h4 h5 h6 h7 h8 h9
  unfold X_icmp at h
  split at h
  · exact lv_icmp_ge hC.1 hC.2.1 hd ht (fun q => hK _ _ _ _ _ _ (h.1 q) t H locs ls cells slots h1 h2 h3 h4 h5 h6 h7.tl.tl h8 h9) (fun q => hK _ _ _ _ _ _ (h.2 q) t H locs ls cells slots h1 h2 h3 h4 h5 h6 h7.tl.tl h8 h9)
  · exact h.elim
theorem xs_icmp_gt {off : Int} {tgt : Nat} (hd : decode M.2.1 pc = .ok (.if_icmp .gt off, 3)) (ht : (pc : Int) + off = (tgt : Int)) : XSnd M pc (X_icmp (fun x y => y < x) tgt) := by
  intro G p l e R s m args below meth c P t0 S0 htr0 hC K hK L st S u w h t H locs ls cells slots h1 h2 h3 h4 h5 h6 h7 h8 h9
  unfold X_icmp at h
  split at h
  · exact lv_icmp_gt hC.1 hC.2.1 hd ht (fun q => hK _ _ _ _ _ _ (h.1 q) t H locs ls cells slots h1 h2 h3 h4 h5 h6 h7.tl.tl h8 h9) (fun q => hK _ _ _ _ _ _ (h.2 q) t H locs ls cells slots h1 h2 h3 h4 h5 h6 h7.tl.tl h8 h9)
  · exact h.elim
theorem xs_icmp_le {off : Int} {tgt : Nat} (hd : decode M.2.1 pc = .ok (.if_icmp .le off, 3)) (ht : (pc : Int) + off = (tgt : Int)) : XSnd M pc (X_icmp (fun x y => x ≤ y) tgt) := by
  intro G p l e R s m args below meth c P t0 S0 htr0 hC K hK L st S u w h t H locs ls cells slots h1 h2 h3 h4 h5 h6 h7 h8 h9
  unfold X_icmp at h
  split at h
  · exact lv_icmp_le hC.1 hC.2.1 hd ht (fun q => hK _ _ _ _ _ _ (h.1 q) t H locs ls cells slots h1 h2 h3 h4 h5 h6 h7.tl.tl h8 h9) (fun q => hK _ _ _ _ _ _ (h.2 q) t H locs ls cells slots h1 h2 h3 h4 h5 h6 h7.tl.tl h8 h9)
  · exact h.elim
theorem xs_goto {off : Int} {tgt : Nat} (hd : decode M.2.1 pc = .ok (.goto off, 3)) (ht : (pc : Int) + off = (tgt : Int)) : XSnd M pc (X_goto tgt) := by
  intro G p l e R s m args below meth c P t0 S0 htr0 hC K hK L st S u w h t H locs ls cells slots h1 h2 h3 h4 h5 h6 h7 h8 h9
  exact lv_goto hC.1 hC.2.1 hd ht (hK _ _ _ _ _ _ h t H locs ls cells slots h1 h2 h3 h4 h5 h6 h7 h8 h9)
theorem xs_ifnull {off : Int} {tgt : Nat} (hd : decode M.2.1 pc = .ok (.ifnull off, 3)) (ht : (pc : Int) + off = (tgt : Int)) : XSnd M pc (X_ifnull tgt) := by
  intro G p l e R s m args below meth c P t0 S0 htr0 hC K hK L st S u w h t H locs ls cells slots h1 h2 h3 h4 h5 h6 h7 h8 h9
  unfold X_ifnull at h
  split at h
  · exact lv_ifnullN hC.1 hC.2.1 hd ht (hK _ _ _ _ _ _ h t H locs ls cells slots h1 h2 h3 h4 h5 h6 h7.tl h8 h9)
  · exact lv_ifnull hC.1 hC.2.1 hd (hK _ _ _ _ _ _ h t H locs ls cells slots h1 h2 h3 h4 h5 h6 h7.tl h8 h9)
  · exact h.elim
theorem xs_ifnonnull {off : Int} {tgt : Nat} (hd : decode M.2.1 pc = .ok (.ifnonnull off, 3)) (ht : (pc : Int) + off = (tgt : Int)) : XSnd M pc (X_ifnonnull tgt) := by
  intro G p l e R s m args below meth c P t0 S0 htr0 hC K hK L st S u w h t H locs ls cells slots h1 h2 h3 h4 h5 h6 h7 h8 h9
  unfold X_ifnonnull at h
  split at h
  · exact lv_ifnonnullN hC.1 hC.2.1 hd (hK _ _ _ _ _ _ h t H locs ls cells slots h1 h2 h3 h4 h5 h6 h7.tl h8 h9)
  · exact lv_ifnonnull hC.1 hC.2.1 hd ht (hK _ _ _ _ _ _ h t H locs ls cells slots h1 h2 h3 h4 h5 h6 h7.tl h8 h9)
  · exact h.elim
theorem x_inj {G : XG} {U : State} {t : XT} {S : XH} {H : Heap} (hX : x_KX G U) (h : x_R G t S H) {x y : Option (Nat × Nat)} (hc : x_cmp x y) (hx : x_ok S (xv_o x)) (hy : x_ok S (xv_o y)) : xz_o t x = xz_o t y ↔ x = y := by
  constructor
  · intro e
    cases x with
    | none => cases y with
      | none => rfl
      | some b => cases e
    | some a => cases y with
      | none => cases e
      | some b =>
        have e : t a.1 a.2 = t b.1 b.2 := Option.some.inj e
        have hx : S a.1 a.2 ≠ none := hx
        have hy : S b.1 b.2 ≠ none := hy
        by_cases ha : a.1 < 48
        · by_cases hb : b.1 < 48
          · obtain ⟨e1, e2⟩ := h.2.2.1 a.1 a.2 b.1 b.2 ha hb hx hy e
            exact congrArg some (Prod.ext e1 e2)
          · have q1 := h.2.2.2.1 a.1 a.2 hx ha
            have n5 : b.1 < 55 := by
              rcases hc with q | q | ⟨q, -⟩
              · exact q.2
              · exact absurd q.1 hb
              · omega
            have q2 := ((h.2.2.2.2.2.2 b.1 b.2 hb).2 hy).2 n5
            omega
        · by_cases hb : b.1 < 48
          · have q1 := h.2.2.2.1 b.1 b.2 hy hb
            have n5 : a.1 < 55 := by
              rcases hc with q | q | ⟨q, -⟩
              · exact absurd q.1 ha
              · exact q.2
              · omega
            have q2 := ((h.2.2.2.2.2.2 a.1 a.2 ha).2 hx).2 n5
            omega
          · rcases hc with q | q | ⟨q1, q2⟩
            · exact absurd q.1 ha
            · exact absurd q.1 hb
            · obtain ⟨z1, z2⟩ := h.2.2.2.2.2.2 a.1 a.2 ha
              obtain ⟨y1, y2⟩ := h.2.2.2.2.2.2 b.1 b.2 hb
              rw [(z2 hx).1, (y2 hy).1, ← q1] at e
              rw [z1] at hx
              rw [y1, ← q1] at hy
              exact congrArg some (Prod.ext q1 (hX.2.2.2.2.2.2.2.1 a.1 a.2 b.2 q2 hx hy e))
  · rintro rfl
    rfl
theorem xs_acmp_eq {off : Int} {tgt : Nat} (hd : decode M.2.1 pc = .ok (.if_acmp .eq off, 3)) (ht : (pc : Int) + off = (tgt : Int)) : XSnd M pc (X_acmp (fun q => q) tgt) := by
  intro G p l e R s m args below meth c P t0 S0 htr0 hC K hK L st S u w h t H locs ls cells slots h1 h2 h3 h4 h5 h6 h7 h8 h9
  unfold X_acmp at h
  split at h
  · next y x r =>
    have i := x_inj hC.2.2.2.2.2.2.1.2.2 h3 h.1 h7.tl.hd h7.hd
    have h := h.2
    have k := lv_acmp_eq (rx := xz_o t x) (ry := xz_o t y) (rest := r.map (xz t)) hC.1 hC.2.1 hd ht (fun q => hK _ _ _ _ _ _ (h.1 (i.mp q)) t H locs ls cells slots h1 h2 h3 h4 h5 h6 h7.tl.tl h8 h9) (fun q => hK _ _ _ _ _ _ (h.2 (fun z => q (i.mpr z))) t H locs ls cells slots h1 h2 h3 h4 h5 h6 h7.tl.tl h8 h9)
    rw [xz_rf, xz_rf] at k
    exact k
  · exact h.elim
theorem xs_acmp_ne {off : Int} {tgt : Nat} (hd : decode M.2.1 pc = .ok (.if_acmp .ne off, 3)) (ht : (pc : Int) + off = (tgt : Int)) : XSnd M pc (X_acmp (fun q => ¬ q) tgt) := by
  intro G p l e R s m args below meth c P t0 S0 htr0 hC K hK L st S u w h t H locs ls cells slots h1 h2 h3 h4 h5 h6 h7 h8 h9
  unfold X_acmp at h
  split at h
  · next y x r =>
    have i := x_inj hC.2.2.2.2.2.2.1.2.2 h3 h.1 h7.tl.hd h7.hd
    have h := h.2
    have k := lv_acmp_ne (rx := xz_o t x) (ry := xz_o t y) (rest := r.map (xz t)) hC.1 hC.2.1 hd ht (fun q => hK _ _ _ _ _ _ (h.1 (fun z => q (i.mpr z))) t H locs ls cells slots h1 h2 h3 h4 h5 h6 h7.tl.tl h8 h9) (fun q => hK _ _ _ _ _ _ (h.2 (fun z => z (i.mp q))) t H locs ls cells slots h1 h2 h3 h4 h5 h6 h7.tl.tl h8 h9)
    rw [xz_rf, xz_rf] at k
    exact k
  · exact h.elim
/-- the method's end, out of the kit's -/
theorem x_ret {G : XG} {p : Program} {l : Launch} {e : Env} {R : Room} {s : State} {m : MethodId} {args : Array Value} {below : List Frame} {meth : Method} {c : Code} {P : XP} {t0 t : XT} {S0 S : XH} {H : Heap} {locs : List Loc} {cells slots : Nat} {g : JFrame} {r : Option XV}
    (h1 : x_ag t0 t S0) (h2 : x_dm S0 S) (h3 : x_R G t S H) (hr : ∀ v, r = some v → x_ok S v) (hP : P (.inl r) S) (h8 : cells ≤ R.cells) (h9 : slots ≤ R.slots)
    (k : ∀ Qc : Array Value → State → Outcome → State → Prop, (∀ T : State, T.heap = H → s.WarmedH T.vm → Qc args s (.returned (r.map (xz t))) T) → W p l e R s m args below meth c H locs R.cells R.slots (MQ below Qc args s R.cells R.slots (fun q => G.2.2.1 ≤ q)) g) :
    W p l e R s m args below meth c H locs cells slots (x_Q G below P t0 S0 s R.cells R.slots) g := by
  refine W.widen h8 h9 (x_mono (k (fun _ _ o T => x_Qc G P t0 S0 o T) fun T hT _ => ⟨t, S, h1, h2, by rw [hT]; exact h3, Or.inl ⟨r, rfl, hr, hP⟩⟩) ?_)
  rintro T ⟨o, a1, a2, a3, L, a4, a5⟩
  exact ⟨o, a1, a2, a3, L, a4.2, a5⟩
def X_vret : XI := fun _ P _ _ st S _ _ => match st with
  | [] => P (.inl none) S
  | _ => False
def X_iret : XI := fun _ P _ _ st S _ _ => match st with
  | [.inl x] => P (.inl (some (.inl x))) S
  | _ => False
/-- of a boolean -/
def X_zret : XI := fun _ P _ _ st S _ _ => match st with
  | [.inl x] => (x = 0 ∨ x = 1) ∧ P (.inl (some (.inl x))) S
  | _ => False
def X_aret : XI := fun _ P _ _ st S _ _ => match st with
  | [.inr (.inr r)] => P (.inl (some (.inr (.inr r)))) S
  | _ => False
theorem xs_vret (hd : decode M.2.1 pc = .ok (.return_, 1)) (hr : M.2.2.2.1 = none) : XSnd M pc X_vret := by
  intro G p l e R s m args below meth c P t0 S0 htr0 hC K hK L st S u w h t H locs ls cells slots h1 h2 h3 h4 h5 h6 h7 h8 h9
  unfold X_vret at h
  split at h
  · exact x_ret (r := none) h1 h2 h3 (fun _ q => by cases q) h (by omega) (by omega) fun Qc hq => W.vret hC.1 hC.2.1 (hC.2.2.2.1.trans hr) hq h4 hd hC.2.2.2.2.2.2.2.1
  · exact h.elim
theorem xs_iret (hd : decode M.2.1 pc = .ok (.ireturn, 1)) (hr : M.2.2.2.1 = some .int) : XSnd M pc X_iret := by
  intro G p l e R s m args below meth c P t0 S0 htr0 hC K hK L st S u w h t H locs ls cells slots h1 h2 h3 h4 h5 h6 h7 h8 h9
  unfold X_iret at h
  split at h
  · next x => exact x_ret (r := some (xv_i x)) h1 h2 h3 (fun _ q => by cases q; trivial) h (by omega) (by omega) fun Qc hq => W.iret hC.1 hC.2.1 (hC.2.2.2.1.trans hr) hq h4 hd hC.2.2.2.2.2.2.2.1
  · exact h.elim
theorem xs_zret (hd : decode M.2.1 pc = .ok (.ireturn, 1)) (hr : M.2.2.2.1 = some .boolean) : XSnd M pc X_zret := by
  intro G p l e R s m args below meth c P t0 S0 htr0 hC K hK L st S u w h t H locs ls cells slots h1 h2 h3 h4 h5 h6 h7 h8 h9
  unfold X_zret at h
  split at h
  · next x => exact x_ret (r := some (xv_i x)) h1 h2 h3 (fun _ q => by cases q; trivial) h.2 (by omega) (by omega) fun Qc hq => W.zret hC.1 hC.2.1 (hC.2.2.2.1.trans hr) (by rcases h.1 with rfl | rfl <;> rfl) hq h4 hd hC.2.2.2.2.2.2.2.1
  · exact h.elim
theorem xs_aret {rt : FieldType} (hd : decode M.2.1 pc = .ok (.areturn, 1)) (hr : M.2.2.2.1 = some rt) (hrt : (∃ n, rt = .object n) ∨ ∃ t, rt = .array t) : XSnd M pc X_aret := by
  intro G p l e R s m args below meth c P t0 S0 htr0 hC K hK L st S u w h t H locs ls cells slots h1 h2 h3 h4 h5 h6 h7 h8 h9
  unfold X_aret at h
  split at h
  · next r => exact x_ret (r := some (xv_o r)) h1 h2 h3 (fun _ q => by cases q; exact h7.hd) h (by omega) (by omega) fun Qc hq => W.aret hC.1 hC.2.1 (hC.2.2.2.1.trans hr) hrt (by cases r with | none => exact Or.inl rfl | some r => exact Or.inr ⟨_, rfl⟩) hq h4 hd hC.2.2.2.2.2.2.2.1
  · exact h.elim
end XS
