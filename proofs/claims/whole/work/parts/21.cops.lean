section
variable {G : Gm} {S : Sm} {l M : Nat}
theorem sRing_ne {j x c i : Nat} (h : i < 80 ∨ 381 ≤ i) : sRing S j x c i = S i := by
  have hm : S 80 % 60 < 60 := Nat.mod_lt _ (by decide)
  unfold sRing
  rw [su_ne (by omega), su_ne (by omega), su_ne (by omega), su_ne (by omega), su_ne (by omega), su_ne (by omega)]
theorem sRing_80 {j x c : Nat} : sRing S j x c 80 = S 80 + 1 := by unfold sRing; rw [su_at]
theorem sRing_row {j x c k : Nat} : sRing S j x c (81 + k) = if k / 5 = S 80 % 60 then (if k % 5 = 0 then S 0 else if k % 5 = 1 then j / 2 else if k % 5 = 2 then j % 2 else if k % 5 = 3 then x else c) else S (81 + k) := by
  have hm : S 80 % 60 < 60 := Nat.mod_lt _ (by decide)
  unfold sRing su
  generalize S 80 % 60 = m at *
  by_cases e : k / 5 = m
  · rw [if_pos e]
    rcases (show k % 5 = 0 ∨ k % 5 = 1 ∨ k % 5 = 2 ∨ k % 5 = 3 ∨ k % 5 = 4 by omega) with q | q | q | q | q
    · rw [if_neg (by omega), if_neg (by omega), if_neg (by omega), if_neg (by omega), if_neg (by omega), if_pos (by omega), if_pos q]
    · rw [if_neg (by omega), if_neg (by omega), if_neg (by omega), if_neg (by omega), if_pos (by omega), if_neg (by omega), if_pos q]
    · rw [if_neg (by omega), if_neg (by omega), if_neg (by omega), if_pos (by omega), if_neg (by omega), if_neg (by omega), if_pos q]
    · rw [if_neg (by omega), if_neg (by omega), if_pos (by omega), if_neg (by omega), if_neg (by omega), if_neg (by omega), if_pos q]
    · rw [if_neg (by omega), if_pos (by omega), if_neg (by omega), if_neg (by omega), if_neg (by omega), if_neg (by omega)]
  · rw [if_neg e, if_neg (by omega), if_neg (by omega), if_neg (by omega), if_neg (by omega), if_neg (by omega), if_neg (by omega)]
theorem sSg_of {S' : Sm} (h : S' 2 = S 2) {s : Nat} : sSg S' s = sSg S s := by unfold sSg; rw [h]
theorem sTo_of {S' : Sm} (h : S' 2 = S 2) (hb : ∀ j, j < 10 → sB S' j 0 = sB S j 0) {s : Nat} (hs : s < 5) : sTo S' s = sTo S s := by
  unfold sTo sOn
  rw [sSg_of h, hb (2 * s) (by omega), hb (2 * s + 1) (by omega)]
theorem c_and {k : Nat} (hk : k < 2147483648) : nI k &&& 2147483647 = nI k := by
  apply Int32.toBitVec_inj.mp
  rw [Int32.toBitVec_and]
  apply BitVec.eq_of_toNat_eq
  rw [BitVec.toNat_and, bs_bv, BitVec.toNat_ofNat, Nat.mod_eq_of_lt (by omega)]
  show k &&& (2 ^ 31 - 1) = k
  rw [Nat.and_two_pow_sub_one_eq_mod, Nat.mod_eq_of_lt (by omega)]
theorem c_row {k : Nat} (hk : k < 2147483648) : fX3_rowOf (nI k) = some (nI (k % 60 * 5)) := by
  unfold fX3_rowOf
  rw [c_and hk, m_rem hk, show (5 : Int32) = nI 5 from rfl, bs_mul]
theorem c_rec (C : CL0 G l S) (hr : S 80 < 2147483647) {j x c : Nat} {y : Int32} (hy : y = nI c) : ∃ G', fX3_record l j (G 1 l 0 7) (nI x) y G = some G' ∧ CL0 G' l (sRing S j x c) ∧ FrC l G G' ∧ (∀ s, G' 4 l s 5 = G 4 l s 5) ∧ (∀ a c k, a ≠ 8 → a ≠ 3 → G' a l c k = G a l c k) := by
  have hm : S 80 % 60 < 60 := Nat.mod_lt _ (by decide)
  obtain ⟨⟨a1, a2, a3, a4⟩, hs, hk, hb, hrr, ht, hz⟩ := C
  unfold fX3_record
  have e2 : ∀ w : Nat, nI (S 80 % 60 * 5) + (OfNat.ofNat w : Int32) = nI (S 80 % 60 * 5 + w) := fun w => by simp only [bs_nat, nI_add]
  rw [a4, c_row (by omega), gm_bs, e2 1, e2 2, e2 3, e2 4, gm_gin (by omega) (by decide), gm_gin (by omega) (by decide), gm_gin (by omega) (by decide), gm_gin (by omega) (by decide), gm_gin (by omega) (by decide), a1, hy]
  rw [gu_k (show (3 : Nat) ≠ 8 by decide), gu_k (show (3 : Nat) ≠ 8 by decide), gu_k (show (3 : Nat) ≠ 8 by decide), gu_k (show (3 : Nat) ≠ 8 by decide), gu_k (show (3 : Nat) ≠ 8 by decide), a4, nI_1]
  have other : ∀ a c' k, a ≠ 8 → a ≠ 3 → gm_up (gm_up (gm_up (gm_up (gm_up (gm_up G 8 l 1 (S 80 % 60 * 5) (nI (S 0))) 8 l 1 (S 80 % 60 * 5 + 1) (nI (j / 2))) 8 l 1 (S 80 % 60 * 5 + 2) (nI (j % 2))) 8 l 1 (S 80 % 60 * 5 + 3) (nI x)) 8 l 1 (S 80 % 60 * 5 + 4) (nI c)) 3 l 0 1 (nI (S 80 + 1)) a l c' k = G a l c' k := by
    intro a c' k q1 q2
    rw [gu_k q2, gu_k q1, gu_k q1, gu_k q1, gu_k q1, gu_k q1]
  refine ⟨_, rfl, ?_, FrC.rf.up.up.up.up.up.up, fun s => other 4 s 5 (by decide) (by decide), other⟩
  have n2 : ∀ i, i < 80 ∨ 381 ≤ i → sRing S j x c i = S i := fun i q => sRing_ne q
  refine ⟨⟨?_, ?_, ?_, ?_⟩, ?_, ?_, ?_, ?_, ?_, ?_⟩
  · rw [other 1 0 7 (by decide) (by decide), n2 _ (by omega)]; exact a1
  · rw [other 1 0 5 (by decide) (by decide), n2 _ (by omega)]; exact a2
  · rw [other 1 0 6 (by decide) (by decide), n2 _ (by omega)]; exact a3
  · rw [gu_at, sRing_80]
  · intro s q
    rw [other 4 s 1 (by decide) (by decide), other 4 s 2 (by decide) (by decide), other 4 s 3 (by decide) (by decide), other 4 s 4 (by decide) (by decide), sSg_of (n2 2 (by omega)), n2 (3 + s) (by omega), n2 (8 + 2 * s) (by omega), n2 (8 + 2 * s + 1) (by omega)]
    exact hs s q
  · intro k q
    rw [gu_k (by decide), gu_c (by decide), gu_c (by decide), gu_c (by decide), gu_c (by decide), gu_c (by decide), n2 _ (by omega)]; exact hk k q
  · intro j' q w' q'
    have : sB (sRing S j x c) j' w' = sB S j' w' := n2 _ (by omega)
    rw [other 0 j' _ (by decide) (by decide), this]; exact hb j' q w' q'
  · intro k q q'
    rw [sRing_80] at q'
    rw [gu_k (by decide), sRing_row]
    generalize hmm : S 80 % 60 = m at *
    by_cases e : k / 5 = m
    · rw [if_pos e]
      rcases (show k % 5 = 0 ∨ k % 5 = 1 ∨ k % 5 = 2 ∨ k % 5 = 3 ∨ k % 5 = 4 by omega) with p | p | p | p | p
      · rw [gu_s (by omega), gu_s (by omega), gu_s (by omega), gu_s (by omega), show k = m * 5 by omega, gu_at, if_pos (by omega)]
      · rw [gu_s (by omega), gu_s (by omega), gu_s (by omega), show k = m * 5 + 1 by omega, gu_at, if_neg (by omega), if_pos (by omega)]
      · rw [gu_s (by omega), gu_s (by omega), show k = m * 5 + 2 by omega, gu_at, if_neg (by omega), if_neg (by omega), if_pos (by omega)]
      · rw [gu_s (by omega), show k = m * 5 + 3 by omega, gu_at, if_neg (by omega), if_neg (by omega), if_neg (by omega), if_pos (by omega)]
      · rw [show k = m * 5 + 4 by omega, gu_at, if_neg (by omega), if_neg (by omega), if_neg (by omega), if_neg (by omega)]
    · rw [if_neg e, gu_s (by omega), gu_s (by omega), gu_s (by omega), gu_s (by omega), gu_s (by omega)]
      exact hrr k q (by omega)
  · intro t q w' q'
    rw [n2 381 (by omega)] at q
    have : sT (sRing S j x c) t w' = sT S t w' := n2 _ (by omega)
    rw [other 5 t _ (by decide) (by decide), this]; exact ht t q w' q'
  · intro t q
    rw [other 5 t 6 (by decide) (by decide)]; exact hz t q
/-- ringing: the row, and what stays -/
theorem c_rr (C : CL0 G l S) (hr : S 80 < 2147483647) {j c : Nat} {y : Int32} (hy : y = nI c) : ∃ G', fX1_ringRear l j y G = some (y, G') ∧ CL0 G' l (sRing S j (sRr j) c) ∧ FrC l G G' ∧ (∀ s, G' 4 l s 5 = G 4 l s 5) ∧ (∀ a c k, a ≠ 8 → a ≠ 3 → G' a l c k = G a l c k) := by
  unfold fX1_ringRear fX0_rearBox
  rw [gm_bs, nI_add]
  obtain ⟨G', e, h1, h2, h3, h4⟩ := c_rec C hr (j := j) (x := j / 2 + j % 2) hy
  exact ⟨G', by rw [e]; rfl, h1, h2, h3, h4⟩
theorem c_ra (C : CL0 G l S) (hr : S 80 < 2147483647) {j c : Nat} {y : Int32} (hy : y = nI c) : ∃ G', fX1_ringAhead l j y G = some (y, G') ∧ CL0 G' l (sRing S j (sAh j) c) ∧ FrC l G G' ∧ (∀ s, G' 4 l s 5 = G 4 l s 5) ∧ (∀ a c k, a ≠ 8 → a ≠ 3 → G' a l c k = G a l c k) := by
  unfold fX1_ringAhead fX0_boxAhead
  rw [gm_bs, nI_1, bs_sub (by omega)]
  obtain ⟨G', e, h1, h2, h3, h4⟩ := c_rec C hr (j := j) (x := j / 2 + 1 - j % 2) hy
  exact ⟨G', by rw [e]; rfl, h1, h2, h3, h4⟩
theorem sTo_ring {j x c s : Nat} (hs : s < 5) : sTo (sRing S j x c) s = sTo S s := sTo_of (sRing_ne (by omega)) (fun j' hj => sRing_ne (by omega)) hs
/-- the line's own numbers -/
theorem CL0.b0 (C : CL0 G l S) {j : Nat} (hj : j < 10) : G 0 l j 2 = nI (sB S j 0) := C.2.2.2.1 j hj 0 (by decide)
theorem CL0.b1 (C : CL0 G l S) {j : Nat} (hj : j < 10) : G 0 l j 3 = nI (sB S j 1) := C.2.2.2.1 j hj 1 (by decide)
theorem CL0.b2 (C : CL0 G l S) {j : Nat} (hj : j < 10) : G 0 l j 4 = nI (sB S j 2) := C.2.2.2.1 j hj 2 (by decide)
theorem CL0.b3 (C : CL0 G l S) {j : Nat} (hj : j < 10) : G 0 l j 5 = nI (sB S j 3) := C.2.2.2.1 j hj 3 (by decide)
theorem CL0.b4 (C : CL0 G l S) {j : Nat} (hj : j < 10) : G 0 l j 6 = nI (sB S j 4) := C.2.2.2.1 j hj 4 (by decide)
theorem CL0.tt (C : CL0 G l S) {t w : Nat} (ht : t < S 381) (hw : w < 8) : G 5 l t (w + 1) = nI (sT S t w) := C.2.2.2.2.2.1 t ht w hw
theorem CL0.t0 (C : CL0 G l S) {t : Nat} (ht : t < S 381) : G 5 l t 1 = nI (sT S t 0) := C.tt ht (w := 0) (by decide)
theorem CL0.t1 (C : CL0 G l S) {t : Nat} (ht : t < S 381) : G 5 l t 2 = nI (sT S t 1) := C.tt ht (w := 1) (by decide)
theorem CL0.t2 (C : CL0 G l S) {t : Nat} (ht : t < S 381) : G 5 l t 3 = nI (sT S t 2) := C.tt ht (w := 2) (by decide)
theorem CL0.t3 (C : CL0 G l S) {t : Nat} (ht : t < S 381) : G 5 l t 4 = nI (sT S t 3) := C.tt ht (w := 3) (by decide)
theorem CL0.t4 (C : CL0 G l S) {t : Nat} (ht : t < S 381) : G 5 l t 5 = nI (sT S t 4) := C.tt ht (w := 4) (by decide)
theorem CL0.t5 (C : CL0 G l S) {t : Nat} (ht : t < S 381) : G 5 l t 6 = nI (sT S t 5) := C.tt ht (w := 5) (by decide)
theorem CL0.t6 (C : CL0 G l S) {t : Nat} (ht : t < S 381) : G 5 l t 7 = nI (sT S t 6) := C.tt ht (w := 6) (by decide)
theorem CL0.t7 (C : CL0 G l S) {t : Nat} (ht : t < S 381) : G 5 l t 8 = nI (sT S t 7) := C.tt ht (w := 7) (by decide)
theorem CL0.tm (C : CL0 G l S) : G 1 l 0 7 = nI (S 0) := C.1.1
theorem CL0.bx (C : CL0 G l S) : G 1 l 0 5 = nI (S 1) := C.1.2.1
theorem CL0.ap (C : CL0 G l S) : G 1 l 0 6 = nI (S 381) := C.1.2.2.1
theorem CL0.sc (C : CL0 G l S) {s : Nat} (hs : s < 5) : G 4 l s 1 = (if sSg S s then 1 else 0) ∧ G 4 l s 2 = nI (S (3 + s)) ∧ G 4 l s 3 = (if sSg S s then nI (S (8 + 2 * s)) else 0) ∧ G 4 l s 4 = (if sSg S s then nI (S (8 + 2 * s + 1)) else 0) := C.2.1 s hs
theorem c_trn (C : CL0 G l S) (I : Inv 12 S) {t : Nat} (ht : t < S 381) : fX1_trainAt l (nI t) G = some (some t) := by
  have tn := I.tn
  unfold fX1_trainAt
  rw [if_neg (by rw [bs_neg (by omega)]; omega), C.ap, if_neg (by rw [bs_le (by omega) (by omega)]; omega), gm_gin (by omega) (by decide)]
theorem c_trn0 (C : CL0 G l S) (I : Inv 12 S) {x : Int32} (hx : ∀ t, t < S 381 → x ≠ nI t) : fX1_trainAt l x G = some none := by
  have tn := I.tn
  unfold fX1_trainAt
  by_cases c : x < 0
  · rw [if_pos c]
  · obtain ⟨j, hj, rfl⟩ := nI_of c
    rw [if_neg c, C.ap, if_pos]
    rw [bs_le (by omega) (by omega)]
    by_cases q : j < S 381
    · exact absurd rfl (hx j q)
    · omega
theorem c_blk (C : CL0 G l S) (I : Inv M S) {s d : Nat} (hs : s + 1 < S 1) (hd : d < 2) : fX1_blockAt l (nI s) (nI d) G = some (some (2 * s + d)) := by
  have bx := I.bx
  unfold fX1_blockAt
  have e1 : nI (S 1) - 1 = nI (S 1 - 1) := by rw [show (1 : Int32) = nI 1 from rfl, bs_sub (by omega)]
  have e2 : (2 : Int32) * nI s + nI d = nI (2 * s + d) := by simp only [bs_nat, bs_mul, nI_add]
  rw [if_neg (by rw [bs_neg (by omega)]; omega), C.bx, e1, if_neg (by rw [bs_le (by omega) (by omega)]; omega), if_neg (by rw [bs_neg (by omega)]; omega), show (1 : Int32) = nI 1 from rfl, if_pos (by rw [bs_le (by omega) (by omega)]; omega), e2, gm_gin (by omega) (by decide)]
theorem c_blk0 (C : CL0 G l S) (I : Inv M S) {x y : Int32} (hx : ∀ s d, s + 1 < S 1 → d < 2 → ¬ (x = nI s ∧ y = nI d)) : fX1_blockAt l x y G = some none := by
  have bx := I.bx
  unfold fX1_blockAt
  have e1 : nI (S 1) - 1 = nI (S 1 - 1) := by rw [show (1 : Int32) = nI 1 from rfl, bs_sub (by omega)]
  rw [C.bx, e1]
  by_cases c : x < 0
  · rw [if_pos c]
  · obtain ⟨s, hs, rfl⟩ := nI_of c
    rw [if_neg c]
    by_cases c2 : nI (S 1 - 1) ≤ nI s
    · rw [if_pos c2]
    · rw [if_neg c2]
      rw [bs_le (by omega) (by omega)] at c2
      by_cases c3 : y < 0
      · rw [if_pos c3]
      · obtain ⟨d, hd, rfl⟩ := nI_of c3
        rw [if_neg c3, if_neg]
        rw [show (1 : Int32) = nI 1 from rfl, bs_le (by omega) (by omega)]
        intro q
        exact hx s d (by omega) (by omega) ⟨rfl, rfl⟩
theorem ring2 {j x c : Nat} : sRing S j x c 2 = S 2 := sRing_ne (by omega)
theorem ringB {j x c j' : Nat} (h : j' < 10) : sB (sRing S j x c) j' 0 = sB S j' 0 := sRing_ne (by omega)
end
