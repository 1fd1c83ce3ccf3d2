theorem KS.fb {d : DS} {S S' : XH} {b : Nat} (h : KS d S) (h' : fb b S S') (hF : RF S') : KS d S' := by
  have e : ∀ k, k ≠ 13 → k ≠ 14 → S' k = S k := fun k a c => funext fun i => h' k i (by omega) c
  obtain ⟨q, s, cp, ls, ⟨r0, r1, r2, r3, r4, r5, r6, ⟨f, r7, r7'⟩, r8⟩, hA, hc, -⟩ := h
  refine ⟨q, s, cp, ls, ⟨by rw [e 0 (by omega) (by omega)]; exact r0, by rw [e 1 (by omega) (by omega)]; exact r1, by rw [e 2 (by omega) (by omega)]; exact r2, fun m hm => by rw [e 3 (by omega) (by omega)]; exact r3 m hm, fun m hm => by rw [e 4 (by omega) (by omega)]; exact r4 m hm, fun m hm => by rw [e 5 (by omega) (by omega)]; exact r5 m hm, fun m hm => by rw [e 8 (by omega) (by omega)]; exact r6 m hm, ⟨f, by rw [e 9 (by omega) (by omega)]; exact r7, r7'⟩, fun j hj => (r8 j hj).keep (by rw [e 6 (by omega) (by omega)]) (e _ (by omega) (by omega)) (e 54 (by omega) (by omega)) fun p c hc => ?_⟩, hA, hc, hF⟩
  rw [e (lk j) (by unfold lk; split <;> omega) (by unfold lk; split <;> omega)]
  exact hc
theorem fb.fc {S S' : XH} {b : Nat} (h : fb b S S') : fc S S' := fun k hk => funext fun i => h k i (by omega) (by omega)
theorem lay_bytes {ty M t a v r : Nat} (h : ty = 200 ∨ ty = 210 ∨ ty = 420 ∨ ty = 430 ∨ ty = 500 ∨ ty = 510) : bytesOf (tyN (Int32.ofNat ty)) M t a v r = lay6 ty a v t r M ∧ tyN (Int32.ofNat ty) < 6 := by
  have key : ∀ i, tyN (Int32.ofNat ty) = i → i < 6 → tdig i ++ bmL (bm2 i) (bm4 i) (bm39 i) = lay1 ty → (st_ha i = 0 ↔ ¬ isFb (Int32.ofNat ty) 2 = true) → (st_tb i = 0 ↔ ¬ isFb (Int32.ofNat ty) 4 = true) → (st_hn i = 0 ↔ ¬ isFb (Int32.ofNat ty) 39 = true) → bytesOf (tyN (Int32.ofNat ty)) M t a v r = lay6 ty a v t r M ∧ tyN (Int32.ofNat ty) < 6 := by
    intro i hi hi6 e1 e2 e3 e4
    rw [hi]
    refine ⟨?_, hi6⟩
    unfold bytesOf lay6 lay5 lay4 lay3 lay2
    have swp : ∀ {p q : Prop} [Decidable p] [Decidable q] (x : List Nat), (p ↔ ¬ q) → (if p then [] else x) = (if q then x else []) := fun {p q} _ _ x hpq => by
      by_cases z : q
      · rw [if_neg (fun y => hpq.mp y z), if_pos z]
      · rw [if_pos (hpq.mpr z), if_neg z]
    rw [e1, swp _ e2, swp _ e3, swp _ e4]
  rcases h with rfl | rfl | rfl | rfl | rfl | rfl
  · exact key 0 (by decide) (by decide) (by decide +kernel) (by decide +kernel) (by decide +kernel) (by decide +kernel)
  · exact key 1 (by decide) (by decide) (by decide +kernel) (by decide +kernel) (by decide +kernel) (by decide +kernel)
  · exact key 2 (by decide) (by decide) (by decide +kernel) (by decide +kernel) (by decide +kernel) (by decide +kernel)
  · exact key 3 (by decide) (by decide) (by decide +kernel) (by decide +kernel) (by decide +kernel) (by decide +kernel)
  · exact key 4 (by decide) (by decide) (by decide +kernel) (by decide +kernel) (by decide +kernel) (by decide +kernel)
  · exact key 5 (by decide) (by decide) (by decide +kernel) (by decide +kernel) (by decide +kernel) (by decide +kernel)
section SG
variable {n : Nat} {d : DS} {S : XH} {P : XP}
theorem c_byteAt {k i : Int32} (hK : KS d S) (hro : ro S) (hi : Inv n d) (h5 : (d.2 5).length ≤ 3000) (hb : ¬ (0 ≤ k ∧ k < Int32.ofNat (d.2 5).length ∧ 0 ≤ i) → kT d S 15 P)
    (ho : ∀ K I (hK : K < (d.2 5).length), k = Int32.ofNat K → i = Int32.ofNat I → I < 2147483648 → kN d S (fun S' => P (.inl (some (xv_i (byteOf (mbytes (d.2 5)[K]) I)))) S')) : Y_C_byteAt 8 300 [xv_r 0 0, xv_i k, xv_i i] S P := by
  obtain ⟨q, s, cp, ls, hR, hA, hc, hF⟩ := id hK
  refine x_go.run mn_C_byteAt 30 ?_
  refine ⟨nl rfl, ⟨_, hR.1⟩, rfl, nl rfl, 1, 6, nl rfl, nl rfl, c_messageAt hK (fun z S' nx a b c => hb (fun y => z ⟨y.1, y.2.1⟩) S' nx a b c) fun K p hk e hp => ?_⟩
  refine ⟨fun c => ?_, fun c => ?_⟩
  · have c : 0 ≤ i := c
    obtain ⟨I, hI, rfl⟩ := z_of c
    obtain ⟨ty, M, t, a, v, r, e1, e2, e3, e4, e6, e7, e8, -⟩ := hi.2.2.2.1 _ (List.getElem_mem hk)
    obtain ⟨l1, l2⟩ := lay_bytes (M := M) (t := t) (a := a) (v := v) (r := r) e2
    have hmb : mbytes (d.2 5)[K] = lay6 ty a v t r M := by
      unfold mbytes
      rw [e1]
      dsimp only
      rw [z_nat (by omega), z_nat (by omega), z_nat (by omega), z_nat (by omega), z_nat (by omega), z_nat (by omega)]
    have hp2 := hp
    rw [e1] at hp2
    refine ⟨nl rfl, ⟨_, hp⟩, rfl, nl rfl, 5, 200, nl rfl, nl rfl, c_bytes (i := tyN (Int32.ofNat ty)) hp2 l2 (by omega) (by omega) (by omega) (by omega) (by omega) hro hF fun S1 b cap hb0 hcap hB f1 r1 => ?_⟩
    rw [l1] at hB
    have fin : P (.inl (some (xv_i (byteOf (lay6 ty a v t r M) I)))) S1 := by
      have := ho K I hk e rfl hI S1 (hK.fb f1 r1) f1.fc
      rw [hmb] at this
      exact this
    have hlen : (lay6 ty a v t r M).length ≤ 70 := Nat.le_trans hB.le hcap
    obtain ⟨a1, f1', ml1, g1, -⟩ := id hB
    refine ⟨nl rfl, ⟨_, g1⟩, rfl, nl rfl, 0, 0, Nat.zero_le _, Nat.zero_le _, c_sblen hB ?_⟩
    refine ⟨fun c2 => ?_, fun c2 => ?_⟩
    · have c2 := (z_le (by omega) hI).mp c2
      unfold byteOf at fin
      rw [dif_neg (by omega)] at fin
      exact fin
    · have hlt : I < (lay6 ty a v t r M).length := by
        rcases Nat.lt_or_ge I (lay6 ty a v t r M).length with z | z
        · exact z
        · exact (c2 ((z_le (by omega) hI).mpr z)).elim
      refine ⟨nl rfl, ⟨_, g1⟩, rfl, nl rfl, 0, 0, Nat.zero_le _, Nat.zero_le _, c_charAt hB (by omega) hlt ?_⟩
      unfold byteOf at fin
      rw [dif_pos hlt] at fin
      exact fin
  · obtain ⟨nx, -, -, hnx⟩ := hF.fr
    exact ⟨nl rfl, nl rfl, nl rfl, 12, nx, nl rfl, hnx, (hb fun y => c y.2.2).use hK hnx⟩
theorem L_byteAt {k i : Int32} (hK : KS d S) (hro : ro S) (hi : Inv n d) (h5 : (d.2 5).length ≤ 3000) (hout : outA S) (h : lO (s_byteAt d k i).1 (s_byteAt d k i).2.1 (s_byteAt d k i).2.2 S P) : Y_L_byteAt 60 2000 [xv_r 0 0, xv_i k, xv_i i, xv_r 30 0] S P := by
  obtain ⟨q, s, cp, ls, hR, -⟩ := id hK
  refine x_go.run mn_L_byteAt 14 ?_
  refine ⟨nl rfl, ⟨_, hR.1⟩, rfl, nl rfl, 8, 300, nl rfl, nl rfl, c_byteAt hK hro hi h5 (fun z S' nx k f hx => ⟨15, [], 13, hx, nl rfl, rfl, ?_⟩) fun K I hk e1 e2 hI S' k f => ?_⟩
  · rw [show s_byteAt d _ i = (d, 1, 0) from if_neg z] at h
    exact h.thr hout (show ¬ (1 : Int32) = 0 by decide) k f
  · subst e1
    subst e2
    have e : s_byteAt d (Int32.ofNat K) (Int32.ofNat I) = (d, 0, byteOf (mbytes (d.2 5)[K]) I) := by
      unfold s_byteAt
      rw [if_pos ⟨i0 (by omega), (z_lt (by omega) (by omega)).mpr hk, i0 hI⟩, msg_at hk h5, z_nat hI]
    rw [e] at h
    obtain ⟨g, hg⟩ := hout.fc f
    exact ⟨_, _, hg, nl rfl, z_in (k := 0) (by decide) (by decide), h.out k f⟩
end SG
