/-! switches; statics; Math.min -/
def x_swk (K : Nat → Prop) (d : Nat) (x : Int) (tab : List (Int × Nat)) : Prop := match tab with
  | [] => K d
  | q :: r => (x = q.1 → K q.2) ∧ (¬ x = q.1 → x_swk K d x r)
def X_sw (tab : List (Int × Nat)) (d : Nat) : XI := fun K _ _ L st S u w => match st with
  | .inl x :: r => x_swk (fun tgt => K tgt L r S u w) d x.toInt tab
  | _ => False
theorem x_swk_mono {K K' : Nat → Prop} {d : Nat} {x : Int} (h : ∀ n, K n → K' n) : ∀ {tab : List (Int × Nat)}, x_swk K d x tab → x_swk K' d x tab
  | [], q => h _ q
  | _ :: _, q => ⟨fun z => h _ (q.1 z), fun z => x_swk_mono h (q.2 z)⟩
theorem xm_sw {tab : List (Int × Nat)} {d : Nat} : XMon (X_sw tab d) := by
  intro K K' P P' pc L st S u w hK hP h
  unfold X_sw at h ⊢
  split at h
  · exact x_swk_mono (fun _ q => hK _ _ _ _ _ _ q) h
  · exact h.elim
theorem x_swk_split {K : Nat → Prop} {d : Nat} {x : Int} : ∀ {tab : List (Int × Nat)}, x_swk K d x tab → (∃ q ∈ tab, x = q.1 ∧ K q.2) ∨ ((∀ q ∈ tab, ¬ x = q.1) ∧ K d)
  | [], h => Or.inr ⟨fun _ q => (by cases q), h⟩
  | a :: r, h => by
    by_cases e : x = a.1
    · exact Or.inl ⟨a, List.mem_cons_self, e, h.1 e⟩
    · rcases x_swk_split (h.2 e) with ⟨q, q1, q2⟩ | ⟨q1, q2⟩
      · exact Or.inl ⟨q, List.mem_cons_of_mem _ q1, q2⟩
      · refine Or.inr ⟨fun z hz => ?_, q2⟩
        rcases List.mem_cons.mp hz with rfl | hz
        · exact e
        · exact q1 z hz
section XSW
variable {M : XM} {pc : Nat}
theorem xs_tsw {dflt lo hi : Int} {offs : Array Int} {len d : Nat} {tab : List (Int × Nat)} (hd : decode M.2.1 pc = .ok (.tableswitch dflt lo hi offs, len)) (hdf : (pc : Int) + dflt = (d : Int)) (ht : ∀ q ∈ tab, lo ≤ q.1 ∧ q.1 ≤ hi ∧ (offs[(q.1 - lo).toNat]?).map (fun o => (pc : Int) + o) = some (q.2 : Int)) (hall : ∀ v : Int, lo ≤ v → v ≤ hi → ∃ q ∈ tab, v = q.1) : XSnd M pc (X_sw tab d) := by
  intro G p l e R s m args below meth c P t0 S0 htr0 hC K hK L st S u w h t H locs ls cells slots h1 h2 h3 h4 h5 h6 h7 h8 h9
  unfold X_sw at h
  split at h
  · next x r =>
    rcases x_swk_split h with ⟨q, q1, q2, q3⟩ | ⟨q1, q2⟩
    · obtain ⟨a1, a2, a3⟩ := ht q q1
      cases ho : offs[(q.1 - lo).toNat]? with
      | none => rw [ho] at a3; cases a3
      | some o =>
        rw [ho] at a3
        exact lv_tableIn hC.1 hC.2.1 hd (by omega) (by omega) (off := o) (by rw [q2]; exact ho) (Option.some.inj a3) (hK _ _ _ _ _ _ q3 t H locs ls cells slots h1 h2 h3 h4 h5 h6 h7.tl h8 h9)
    · refine lv_tableOut hC.1 hC.2.1 hd ?_ hdf (hK _ _ _ _ _ _ q2 t H locs ls cells slots h1 h2 h3 h4 h5 h6 h7.tl h8 h9)
      by_cases z1 : x.toInt < lo
      · exact Or.inl z1
      · by_cases z2 : hi < x.toInt
        · exact Or.inr z2
        · obtain ⟨q, hq, e⟩ := hall x.toInt (by omega) (by omega)
          exact absurd e (q1 q hq)
  · exact h.elim
end XSW
