section SF
variable {S : XH} {P : XP} {b cap : Nat} {L : List Nat}
/-- the bitmap's bytes -/
def bmL (f2 f4 f39 : Nat) : List Nat := [f2 ||| f4, 32, 0, 0, f39, 128, 0, 0]
set_option maxHeartbeats 4000000 in
theorem c_bmt {p f2 f4 f39 : Nat} (h : BS S b cap L) (hc : cap ≤ 1000) (hF : RF S) (hl : L.length + 8 ≤ cap) (h2 : f2 ||| f4 < 256) (h39 : f39 < 256) (hP : ∀ S', BS S' b cap (L ++ bmL f2 f4 f39) → fb b S S' → RF S' → P (.inl none) S') (u w : Nat) :
    x_go b_G_appendBitmap P 60 [some (xv_r 10 p), some (xv_r 13 b), some (xv_i (Int32.ofNat f2)), some (xv_i (Int32.ofNat f4)), some (xv_i 32), some (xv_i (Int32.ofNat f39)), some (xv_i 128)] [] S u w := by
  have e1 : ((Int32.ofNat f2 ||| Int32.ofNat f4).toUInt32 % 65536).toInt32 = Int32.ofNat (f2 ||| f4) := by rw [z_or, i2c_id h2]
  have e2 : ((32 : Int32).toUInt32 % 65536).toInt32 = Int32.ofNat 32 := by decide
  have e3 : ((Int32.ofNat f39).toUInt32 % 65536).toInt32 = Int32.ofNat f39 := i2c_id h39
  have e4 : ((128 : Int32).toUInt32 % 65536).toInt32 = Int32.ofNat 128 := by decide
  have l1 : ∀ (M : List Nat) (c : Nat), (M ++ [c]).length = M.length + 1 := fun M c => by rw [List.length_append]; rfl
  have recv : ∀ {S' : XH} {M : List Nat}, BS S' b cap M → ∃ fs, S' 13 b = some (.inl (9, fs)) := fun q => by
    obtain ⟨a, f, ml, q1, -⟩ := q
    exact ⟨_, q1⟩
  refine x_go.run mn_G_appendBitmap 60 ?_
  refine ⟨nl rfl, recv h, rfl, nl rfl, 0, 0, Nat.zero_le _, Nat.zero_le _, ?_⟩
  show Y_ZStringBuilder_append_2 0 0 [xv_r 13 b, xv_i ((Int32.ofNat f2 ||| Int32.ofNat f4).toUInt32 % 65536).toInt32] S _
  rw [e1]
  refine c_app0 h hc hF h2 (by omega) fun S1 h1 g1 r1 => ?_
  refine ⟨nl rfl, recv h1, rfl, nl rfl, 0, 0, Nat.zero_le _, Nat.zero_le _, ?_⟩
  show Y_ZStringBuilder_append_2 0 0 [xv_r 13 b, xv_i ((32 : Int32).toUInt32 % 65536).toInt32] S1 _
  rw [e2]
  refine c_app0 h1 hc r1 (by decide) (by rw [l1]; omega) fun S2 h2 g2 r2 => ?_
  refine ⟨nl rfl, recv h2, rfl, nl rfl, 0, 0, Nat.zero_le _, Nat.zero_le _, c_app0 (c := 0) h2 hc r2 (by decide) (by rw [l1, l1]; omega) fun S3 h3 g3 r3 => ?_⟩
  refine ⟨nl rfl, recv h3, rfl, nl rfl, 0, 0, Nat.zero_le _, Nat.zero_le _, c_app0 (c := 0) h3 hc r3 (by decide) (by rw [l1, l1, l1]; omega) fun S4 h4 g4 r4 => ?_⟩
  refine ⟨nl rfl, recv h4, rfl, nl rfl, 0, 0, Nat.zero_le _, Nat.zero_le _, ?_⟩
  show Y_ZStringBuilder_append_2 0 0 [xv_r 13 b, xv_i ((Int32.ofNat f39).toUInt32 % 65536).toInt32] S4 _
  rw [e3]
  refine c_app0 h4 hc r4 h39 (by rw [l1, l1, l1, l1]; omega) fun S5 h5 g5 r5 => ?_
  refine ⟨nl rfl, recv h5, rfl, nl rfl, 0, 0, Nat.zero_le _, Nat.zero_le _, ?_⟩
  show Y_ZStringBuilder_append_2 0 0 [xv_r 13 b, xv_i ((128 : Int32).toUInt32 % 65536).toInt32] S5 _
  rw [e4]
  refine c_app0 h5 hc r5 (by decide) (by rw [l1, l1, l1, l1, l1]; omega) fun S6 h6 g6 r6 => ?_
  refine ⟨nl rfl, recv h6, rfl, nl rfl, 0, 0, Nat.zero_le _, Nat.zero_le _, c_app0 (c := 0) h6 hc r6 (by decide) (by rw [l1, l1, l1, l1, l1, l1]; omega) fun S7 h7 g7 r7 => ?_⟩
  refine ⟨nl rfl, recv h7, rfl, nl rfl, 0, 0, Nat.zero_le _, Nat.zero_le _, c_app0 (c := 0) h7 hc r7 (by decide) (by rw [l1, l1, l1, l1, l1, l1, l1]; omega) fun S8 h8 g8 r8 => ?_⟩
  refine hP S8 ?_ (g1.tr (g2.tr (g3.tr (g4.tr (g5.tr (g6.tr (g7.tr g8))))))) r8
  have e : L ++ bmL f2 f4 f39 = L ++ [f2 ||| f4] ++ [32] ++ [0] ++ [0] ++ [f39] ++ [128] ++ [0] ++ [0] := by simp [bmL]
  rw [e]
  exact h8
def bm2 (i : Nat) : Nat := if i = 0 then 64 else 0
def bm4 (i : Nat) : Nat := if i = 0 ∨ i = 2 ∨ i = 4 then 16 else 0
def bm39 (i : Nat) : Nat := if i = 1 ∨ i = 5 then 2 else 0
set_option maxHeartbeats 4000000 in
theorem c_bitmap {p i : Nat} {vs : List XV} (h : BS S b cap L) (hc : cap ≤ 1000) (hF : RF S) (hl : L.length + 8 ≤ cap) (hro : ro S) (hi : i < 6) (hm : S 10 p = some (.inl (7, xv_r 50 i :: vs))) (hP : ∀ S', BS S' b cap (L ++ bmL (bm2 i) (bm4 i) (bm39 i)) → fb b S S' → RF S' → P (.inl none) S') : Y_G_appendBitmap 0 0 [xv_r 10 p, xv_r 13 b] S P := by
  have h50 := hro.2.1 i hi
  rcases (show i = 0 ∨ i = 1 ∨ i = 2 ∨ i = 3 ∨ i = 4 ∨ i = 5 by omega) with rfl | rfl | rfl | rfl | rfl | rfl
  · refine x_go.run mn_G_appendBitmap 40 ?_
    refine ⟨nl rfl, _, _, hm, rfl, ?_⟩
    refine ⟨by show ¬ 50 < 48; decide, _, _, h50, rfl, ?_⟩
    refine ⟨fun c => absurd c (by decide), fun _ => ?_⟩
    refine ⟨nl rfl, _, _, hm, rfl, ?_⟩
    refine ⟨by show ¬ 50 < 48; decide, _, _, h50, rfl, ?_⟩
    refine ⟨fun c => absurd c (by decide), fun _ => ?_⟩
    refine ⟨nl rfl, _, _, hm, rfl, ?_⟩
    refine ⟨by show ¬ 50 < 48; decide, _, _, h50, rfl, ?_⟩
    refine ⟨fun _ => ?_, fun c => (c (by decide)).elim⟩
    refine x_go.back mn_G_appendBitmap (x_go.run mn_G_appendBitmap 4 ?_)
    exact c_bmt (f2 := 64) (f4 := 16) (f39 := 0) h hc hF hl (by decide) (by decide) hP _ _
  · refine x_go.run mn_G_appendBitmap 40 ?_
    refine ⟨nl rfl, _, _, hm, rfl, ?_⟩
    refine ⟨by show ¬ 50 < 48; decide, _, _, h50, rfl, ?_⟩
    refine ⟨fun _ => ?_, fun c => (c (by decide)).elim⟩
    refine ⟨nl rfl, _, _, hm, rfl, ?_⟩
    refine ⟨by show ¬ 50 < 48; decide, _, _, h50, rfl, ?_⟩
    refine ⟨fun _ => ?_, fun c => (c (by decide)).elim⟩
    refine ⟨nl rfl, _, _, hm, rfl, ?_⟩
    refine ⟨by show ¬ 50 < 48; decide, _, _, h50, rfl, ?_⟩
    refine ⟨fun c => absurd c (by decide), fun _ => ?_⟩
    refine x_go.back mn_G_appendBitmap (x_go.run mn_G_appendBitmap 5 ?_)
    exact c_bmt (f2 := 0) (f4 := 0) (f39 := 2) h hc hF hl (by decide) (by decide) hP _ _
  · refine x_go.run mn_G_appendBitmap 40 ?_
    refine ⟨nl rfl, _, _, hm, rfl, ?_⟩
    refine ⟨by show ¬ 50 < 48; decide, _, _, h50, rfl, ?_⟩
    refine ⟨fun _ => ?_, fun c => (c (by decide)).elim⟩
    refine ⟨nl rfl, _, _, hm, rfl, ?_⟩
    refine ⟨by show ¬ 50 < 48; decide, _, _, h50, rfl, ?_⟩
    refine ⟨fun c => absurd c (by decide), fun _ => ?_⟩
    refine ⟨nl rfl, _, _, hm, rfl, ?_⟩
    refine ⟨by show ¬ 50 < 48; decide, _, _, h50, rfl, ?_⟩
    refine ⟨fun _ => ?_, fun c => (c (by decide)).elim⟩
    refine x_go.back mn_G_appendBitmap (x_go.run mn_G_appendBitmap 4 ?_)
    exact c_bmt (f2 := 0) (f4 := 16) (f39 := 0) h hc hF hl (by decide) (by decide) hP _ _
  · refine x_go.run mn_G_appendBitmap 40 ?_
    refine ⟨nl rfl, _, _, hm, rfl, ?_⟩
    refine ⟨by show ¬ 50 < 48; decide, _, _, h50, rfl, ?_⟩
    refine ⟨fun _ => ?_, fun c => (c (by decide)).elim⟩
    refine ⟨nl rfl, _, _, hm, rfl, ?_⟩
    refine ⟨by show ¬ 50 < 48; decide, _, _, h50, rfl, ?_⟩
    refine ⟨fun _ => ?_, fun c => (c (by decide)).elim⟩
    refine ⟨nl rfl, _, _, hm, rfl, ?_⟩
    refine ⟨by show ¬ 50 < 48; decide, _, _, h50, rfl, ?_⟩
    refine ⟨fun _ => ?_, fun c => (c (by decide)).elim⟩
    refine x_go.back mn_G_appendBitmap (x_go.run mn_G_appendBitmap 4 ?_)
    exact c_bmt (f2 := 0) (f4 := 0) (f39 := 0) h hc hF hl (by decide) (by decide) hP _ _
  · refine x_go.run mn_G_appendBitmap 40 ?_
    refine ⟨nl rfl, _, _, hm, rfl, ?_⟩
    refine ⟨by show ¬ 50 < 48; decide, _, _, h50, rfl, ?_⟩
    refine ⟨fun _ => ?_, fun c => (c (by decide)).elim⟩
    refine ⟨nl rfl, _, _, hm, rfl, ?_⟩
    refine ⟨by show ¬ 50 < 48; decide, _, _, h50, rfl, ?_⟩
    refine ⟨fun c => absurd c (by decide), fun _ => ?_⟩
    refine ⟨nl rfl, _, _, hm, rfl, ?_⟩
    refine ⟨by show ¬ 50 < 48; decide, _, _, h50, rfl, ?_⟩
    refine ⟨fun _ => ?_, fun c => (c (by decide)).elim⟩
    refine x_go.back mn_G_appendBitmap (x_go.run mn_G_appendBitmap 4 ?_)
    exact c_bmt (f2 := 0) (f4 := 16) (f39 := 0) h hc hF hl (by decide) (by decide) hP _ _
  · refine x_go.run mn_G_appendBitmap 40 ?_
    refine ⟨nl rfl, _, _, hm, rfl, ?_⟩
    refine ⟨by show ¬ 50 < 48; decide, _, _, h50, rfl, ?_⟩
    refine ⟨fun _ => ?_, fun c => (c (by decide)).elim⟩
    refine ⟨nl rfl, _, _, hm, rfl, ?_⟩
    refine ⟨by show ¬ 50 < 48; decide, _, _, h50, rfl, ?_⟩
    refine ⟨fun _ => ?_, fun c => (c (by decide)).elim⟩
    refine ⟨nl rfl, _, _, hm, rfl, ?_⟩
    refine ⟨by show ¬ 50 < 48; decide, _, _, h50, rfl, ?_⟩
    refine ⟨fun c => absurd c (by decide), fun _ => ?_⟩
    refine x_go.back mn_G_appendBitmap (x_go.run mn_G_appendBitmap 5 ?_)
    exact c_bmt (f2 := 0) (f4 := 0) (f39 := 2) h hc hF hl (by decide) (by decide) hP _ _
/-- room for the bytes that are still to come -/
def bud (cap u w : Nat) : Prop := (cap = 16 ∧ 2 ≤ u ∧ 104 ≤ w) ∨ (cap = 34 ∧ 1 ≤ u ∧ 70 ≤ w) ∨ cap = 70
theorem bud.step {u w len n : Nat} (h : bud cap u w) (hl : len ≤ cap) (hn : len + n ≤ 60) (hn' : n ≤ 16) : ec cap (len + n) ≤ u ∧ ec cap (len + n) * (cap + cap + 2) ≤ w ∧ bud (cgn cap (len + n)) (u - ec cap (len + n)) (w - ec cap (len + n) * (cap + cap + 2)) := by
  unfold ec cgn
  rcases h with ⟨rfl, h1, h2⟩ | ⟨rfl, h1, h2⟩ | rfl
  · by_cases z : len + n ≤ 16
    · rw [if_pos z, if_pos z]
      exact ⟨Nat.zero_le _, by omega, Or.inl ⟨rfl, by omega, by omega⟩⟩
    · rw [if_neg z, if_neg z]
      exact ⟨by omega, by omega, Or.inr (Or.inl ⟨rfl, by omega, by omega⟩)⟩
  · by_cases z : len + n ≤ 34
    · rw [if_pos z, if_pos z]
      exact ⟨Nat.zero_le _, by omega, Or.inr (Or.inl ⟨rfl, by omega, by omega⟩)⟩
    · rw [if_neg z, if_neg z]
      exact ⟨by omega, by omega, Or.inr (Or.inr rfl)⟩
  · rw [if_pos (by omega), if_pos (by omega)]
    exact ⟨Nat.zero_le _, by omega, Or.inr (Or.inr rfl)⟩
theorem BS.le (h : BS S b cap L) : L.length ≤ cap := by
  obtain ⟨a, f, ml, q1, q2, q3, -⟩ := h
  exact q3
theorem bud.rng {u w : Nat} (h : bud cap u w) : cap ≤ 70 ∧ 16 ≤ cap := by
  rcases h with ⟨rfl, -⟩ | ⟨rfl, -⟩ | rfl <;> decide
def bytesOf (i M t a v r : Nat) : List Nat := tdig i ++ bmL (bm2 i) (bm4 i) (bm39 i) ++ (if st_ha i = 0 then [] else digs 3 2 ++ digs a 3) ++ (if st_tb i = 0 then [] else digs v 12) ++ digs t 6 ++ (if st_hn i = 0 then [] else digs r 2) ++ digs M 8
set_option maxHeartbeats 4000000 in
theorem c_bytes {p i M t a v r : Nat} (hm : S 10 p = some (.inl (7, [xv_r 50 i, xv_i (Int32.ofNat M), xv_i (Int32.ofNat t), xv_i (Int32.ofNat a), xv_i (Int32.ofNat v), xv_i (Int32.ofNat r)]))) (hi : i < 6) (hM : M < 2147483648) (ht : t < 2147483648) (ha : a < 2147483648) (hv : v < 2147483648) (hr : r < 2147483648) (hro : ro S) (hF : RF S)
    (hP : ∀ S' b cap, S 13 b = none → cap ≤ 70 → BS S' b cap (bytesOf i M t a v r) → fb b S S' → RF S' → P (.inl (some (xv_r 13 b))) S') : Y_G_bytes 5 200 [xv_r 10 p] S P := by
  obtain ⟨nf, hnf⟩ := id hF
  have hb0 : S 13 nf = none := (hnf nf (Nat.le_refl _)).2.2.2.1
  have h50 := hro.2.1 i hi
  have k10 : ∀ {S1}, fb nf S S1 → S1 10 p = some (.inl (7, [xv_r 50 i, xv_i (Int32.ofNat M), xv_i (Int32.ofNat t), xv_i (Int32.ofNat a), xv_i (Int32.ofNat v), xv_i (Int32.ofNat r)])) := fun f => by
    rw [f 10 p (by omega) (by omega)]
    exact hm
  have k50 : ∀ {S1}, fb nf S S1 → S1 50 i = some (.inl (21, [xv_r 51 i, xv_i (st_tb i), xv_i (st_ha i), xv_i (st_hn i)])) := fun f => by
    rw [f 50 i (by omega) (by omega)]
    exact h50
  have t5 : ∀ S1 cap L u w, BS S1 nf cap L → fb nf S S1 → RF S1 → bud cap u w → L.length ≤ 37 → L ++ digs M 8 = bytesOf i M t a v r → x_go b_G_bytes P 99 [some (xv_r 10 p), some (xv_r 13 nf)] [] S1 u w := by
    intro S1 cap L u w hB hf hF1 hbd hl e
    have hrg := hbd.rng
    obtain ⟨b1, b2, b3⟩ := hbd.step (n := 8) hB.le (by omega) (by omega)
    refine x_go.run mn_G_bytes 10 ?_
    refine ⟨nl rfl, _, _, (k10 hf), rfl, ?_⟩
    refine ⟨nl rfl, rfl, nl rfl, _, _, b1, b2, c_digits (n := 8) hB (by omega) hF1 (by omega) (by omega) hM fun S2 hB2 f2 r2 => ?_⟩
    rw [e] at hB2
    exact hP S2 nf _ hb0 b3.rng.1 hB2 (hf.tr f2) r2
  have t4 : ∀ S1 cap L u w, BS S1 nf cap L → fb nf S S1 → RF S1 → bud cap u w → L.length ≤ 35 → L ++ (if st_hn i = 0 then [] else digs r 2) ++ digs M 8 = bytesOf i M t a v r → x_go b_G_bytes P 80 [some (xv_r 10 p), some (xv_r 13 nf)] [] S1 u w := by
    intro S1 cap L u w hB hf hF1 hbd hl e
    have hrg := hbd.rng
    refine x_go.run mn_G_bytes 10 ?_
    refine ⟨nl rfl, _, _, (k10 hf), rfl, ?_⟩
    refine ⟨by show ¬ 50 < 48; decide, _, _, k50 hf, rfl, ?_⟩
    refine ⟨fun c => ?_, fun c => ?_⟩
    · rw [if_pos c, List.append_nil] at e
      exact x_go.back mn_G_bytes (t5 S1 cap L u w hB hf hF1 hbd (by omega) e)
    · rw [if_neg c] at e
      obtain ⟨b1, b2, b3⟩ := hbd.step (n := 2) hB.le (by omega) (by omega)
      refine ⟨nl rfl, _, _, (k10 hf), rfl, ?_⟩
      refine ⟨nl rfl, rfl, nl rfl, _, _, b1, b2, c_digits (n := 2) hB (by omega) hF1 (by omega) (by omega) hr fun S2 hB2 f2 r2 => ?_⟩
      refine x_go.back mn_G_bytes ?_
      exact t5 S2 _ _ _ _ hB2 (hf.tr f2) r2 b3 (by rw [List.length_append, digs_len]; omega) e
  have t3 : ∀ S1 cap L u w, BS S1 nf cap L → fb nf S S1 → RF S1 → bud cap u w → L.length ≤ 29 → L ++ digs t 6 ++ (if st_hn i = 0 then [] else digs r 2) ++ digs M 8 = bytesOf i M t a v r → x_go b_G_bytes P 70 [some (xv_r 10 p), some (xv_r 13 nf)] [] S1 u w := by
    intro S1 cap L u w hB hf hF1 hbd hl e
    have hrg := hbd.rng
    obtain ⟨b1, b2, b3⟩ := hbd.step (n := 6) hB.le (by omega) (by omega)
    refine x_go.run mn_G_bytes 5 ?_
    refine ⟨nl rfl, _, _, (k10 hf), rfl, ?_⟩
    refine ⟨nl rfl, rfl, nl rfl, _, _, b1, b2, c_digits (n := 6) hB (by omega) hF1 (by omega) (by omega) ht fun S2 hB2 f2 r2 => ?_⟩
    exact t4 S2 _ _ _ _ hB2 (hf.tr f2) r2 b3 (by rw [List.length_append, digs_len]; omega) e
  have t2 : ∀ S1 cap L u w, BS S1 nf cap L → fb nf S S1 → RF S1 → bud cap u w → L.length ≤ 17 → L ++ (if st_tb i = 0 then [] else digs v 12) ++ digs t 6 ++ (if st_hn i = 0 then [] else digs r 2) ++ digs M 8 = bytesOf i M t a v r → x_go b_G_bytes P 50 [some (xv_r 10 p), some (xv_r 13 nf)] [] S1 u w := by
    intro S1 cap L u w hB hf hF1 hbd hl e
    have hrg := hbd.rng
    refine x_go.run mn_G_bytes 10 ?_
    refine ⟨nl rfl, _, _, (k10 hf), rfl, ?_⟩
    refine ⟨by show ¬ 50 < 48; decide, _, _, k50 hf, rfl, ?_⟩
    refine ⟨fun c => ?_, fun c => ?_⟩
    · rw [if_pos c, List.append_nil] at e
      exact x_go.back mn_G_bytes (t3 S1 cap L u w hB hf hF1 hbd (by omega) e)
    · rw [if_neg c] at e
      obtain ⟨b1, b2, b3⟩ := hbd.step (n := 12) hB.le (by omega) (by omega)
      refine ⟨nl rfl, _, _, (k10 hf), rfl, ?_⟩
      refine ⟨nl rfl, rfl, nl rfl, _, _, b1, b2, c_digits (n := 12) hB (by omega) hF1 (by omega) (by omega) hv fun S2 hB2 f2 r2 => ?_⟩
      refine x_go.back mn_G_bytes ?_
      exact t3 S2 _ _ _ _ hB2 (hf.tr f2) r2 b3 (by rw [List.length_append, digs_len]; omega) e
  have t1 : ∀ S1 cap L u w, BS S1 nf cap L → fb nf S S1 → RF S1 → bud cap u w → L.length ≤ 12 → L ++ (if st_ha i = 0 then [] else digs 3 2 ++ digs a 3) ++ (if st_tb i = 0 then [] else digs v 12) ++ digs t 6 ++ (if st_hn i = 0 then [] else digs r 2) ++ digs M 8 = bytesOf i M t a v r → x_go b_G_bytes P 25 [some (xv_r 10 p), some (xv_r 13 nf)] [] S1 u w := by
    intro S1 cap L u w hB hf hF1 hbd hl e
    have hrg := hbd.rng
    refine x_go.run mn_G_bytes 13 ?_
    refine ⟨nl rfl, _, _, (k10 hf), rfl, ?_⟩
    refine ⟨by show ¬ 50 < 48; decide, _, _, k50 hf, rfl, ?_⟩
    refine ⟨fun c => ?_, fun c => ?_⟩
    · rw [if_pos c, List.append_nil] at e
      exact x_go.back mn_G_bytes (t2 S1 cap L u w hB hf hF1 hbd (by omega) e)
    · rw [if_neg c, ← List.append_assoc L] at e
      obtain ⟨b1, b2, b3⟩ := hbd.step (n := 2) hB.le (by omega) (by omega)
      refine ⟨nl rfl, rfl, nl rfl, _, _, b1, b2, c_digits (V := 3) (n := 2) hB (by omega) hF1 (by omega) (by omega) (by decide) fun S2 hB2 f2 r2 => ?_⟩
      have hl2 : (L ++ digs 3 2).length = L.length + 2 := by rw [List.length_append, digs_len]
      have hrg2 := b3.rng
      obtain ⟨d1, d2, d3⟩ := b3.step (len := (L ++ digs 3 2).length) (n := 3) hB2.le (by omega) (by omega)
      refine ⟨nl rfl, _, _, (k10 (hf.tr f2)), rfl, ?_⟩
      refine ⟨nl rfl, rfl, nl rfl, _, _, d1, d2, c_digits (n := 3) hB2 (by omega) r2 (by omega) (by omega) ha fun S3 hB3 f3 r3 => ?_⟩
      refine x_go.back mn_G_bytes ?_
      exact t2 S3 _ _ _ _ hB3 ((hf.tr f2).tr f3) r3 d3 (by rw [List.length_append, digs_len]; omega) e
  refine x_go.run mn_G_bytes 16 ?_
  refine ⟨nl rfl, by decide, 13, nf, by decide, hb0, ?_⟩
  refine ⟨rfl, nl rfl, 1, 16, nl rfl, nl rfl, c_sbinit (x_up_self _ _ _ _) hF.up fun S1 hB1 f1 r1 => ?_⟩
  have f1 : fb nf S S1 := (fb.rf.up (Or.inl ⟨rfl, rfl⟩)).tr f1
  refine ⟨nl rfl, _, _, (k10 f1), rfl, ?_⟩
  refine ⟨by show ¬ 50 < 48; decide, _, _, k50 f1, rfl, ?_⟩
  obtain ⟨a1, f1', ml1, g1, -⟩ := id hB1
  refine ⟨nl rfl, ⟨_, g1⟩, rfl, nl rfl, 0, 0, Nat.zero_le _, Nat.zero_le _, c_appS hB1 (by decide) r1 (hro.fb f1) hi (by decide) fun S2 hB2 f2 r2 => ?_⟩
  refine ⟨nl rfl, ⟨_, k10 (f1.tr f2)⟩, rfl, nl rfl, 0, 0, Nat.zero_le _, Nat.zero_le _, c_bitmap hB2 (by decide) r2 (by rw [List.nil_append, tdig_len]; decide) (hro.fb (f1.tr f2)) hi (k10 (f1.tr f2)) fun S3 hB3 f3 r3 => ?_⟩
  refine x_go.back mn_G_bytes ?_
  rw [List.nil_append] at hB3
  exact t1 S3 16 _ _ _ hB3 ((f1.tr f2).tr f3) r3 (Or.inl ⟨rfl, by decide, by decide⟩) (by rw [List.length_append, tdig_len]; exact Nat.le_refl 12) rfl
end SF
