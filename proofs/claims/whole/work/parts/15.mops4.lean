section
variable {G : Gm} {S : Sm} {M : Nat}
theorem m_offd (h : MA G S) (I : Inv M S) {t : Nat} (ht : t < S 381) (h1 : sT S t 2 ≤ 1) : fX7_isOffered (nI t) G = some (match sNx S (sT S t 3) (sT S t 1) with | none => 0 | some j => if sB S j 1 = t then 1 else 0) := by
  have tn := I.tn
  have bx := I.bx
  have tr := I.tr ht
  have ht5 : t < 305 := by omega
  unfold fX7_isOffered
  simp only [m_nx h I ht h1, gm_bs, m_t1 h ht5]
  cases e : sNx S (sT S t 3) (sT S t 1) with
  | none => rfl
  | some j =>
    obtain ⟨j1, j2, j3, j4, j5⟩ := m_nxj (by omega) e
    have hd : sT S t 1 < 2 := by omega
    have hj : 2 * (j / 2) + sT S t 1 = j := by omega
    have hn : ¬ nI (j / 2) < 0 := by rw [bs_neg (by omega)]; omega
    simp only [if_neg hn, m_b1 h (show j / 2 < 5 by omega) hd, gm_bs, hj, bs_eq (I.lb _ _) (show t < 4294967296 by omega)]
    split <;> rfl
theorem m_goin (h : MA G S) (I : Inv M S) {t : Nat} (ht : t < S 381) (h1 : sT S t 2 ≤ 1) : fX7_canGoIn (nI t) G = some (if sHeld S t = false ∧ sCn S (sT S t 3) (sT S t 1) 1 (S 381) < S (18 + 2 * sT S t 3 + sT S t 1) then 1 else 0) := by
  have tn := I.tn
  have bx := I.bx
  have tr := I.tr ht
  have ht5 : t < 305 := by omega
  have hw := tr.2.2.2.2.1 h1
  have e18 : (18 : Int32) + (2 * nI (sT S t 3)) + nI (sT S t 1) = nI (18 + 2 * sT S t 3 + sT S t 1) := by simp only [bs_nat, bs_mul, nI_add]
  have hle := sCn_le S (sT S t 3) (sT S t 1) 1 (S 381)
  have lp : S (18 + 2 * sT S t 3 + sT S t 1) ≤ 3 := by
    have := I.lp (show 2 * sT S t 3 + sT S t 1 < 12 by omega)
    rwa [← Nat.add_assoc] at this
  have ele : nI (S (18 + 2 * sT S t 3 + sT S t 1)) ≤ nI (sCn S (sT S t 3) (sT S t 1) 1 (S 381)) ↔ ¬ sCn S (sT S t 3) (sT S t 1) 1 (S 381) < S (18 + 2 * sT S t 3 + sT S t 1) := by
    rw [bs_le (by omega) (by omega)]; omega
  unfold fX7_canGoIn
  simp only [m_t3 h ht5, m_t1 h ht5, gm_bs, e18, gm_gin (show 18 + 2 * sT S t 3 + sT S t 1 < 2862 by omega) (show 2862 < 2147483648 by decide), m_offd h I ht h1, m_clr h I ht h1, m_many (y := 1) (p := 1) h I rfl (I.lq t 3) (I.lq t 1) (by decide), h _ (show 18 + 2 * sT S t 3 + sT S t 1 < 2862 by omega), ele]
  unfold sHeld
  have e5 : ∀ A B : Nat, (if ¬ A < B then (some 0 : Option Int32) else some 1) = some (if A < B then 1 else 0) := fun A B => by split <;> simp_all
  rw [e5]
  cases e : sNx S (sT S t 3) (sT S t 1) with
  | none => simp
  | some j =>
    by_cases c1 : sB S j 1 = t <;> by_cases c2 : sB S j 0 = 1 <;> by_cases c3 : sB S j 2 = t <;> simp [c1, c2, c3]
theorem m_btj {x d j : Nat} (hd : d < 2) (e : sBt S x d = some j) : j = 2 * (x + d - 1) + d ∧ j / 2 = x + d - 1 ∧ j % 2 = d ∧ 1 ≤ x + d ∧ x + d < S 1 := by
  unfold sBt at e
  split at e
  · cases e
    omega
  · cases e
theorem m_calm (h : MA G S) (I : Inv M S) {t : Nat} (ht : t < S 381) (h1 : sT S t 2 ≤ 1) : fX7_isCalmBehind (nI t) G = some (if sCalm S t then 1 else 0) := by
  have tn := I.tn
  have bx := I.bx
  have tr := I.tr ht
  have ht5 : t < 305 := by omega
  have hw := tr.2.2.2.2.1 h1
  have hd : sT S t 1 < 2 := by omega
  unfold fX7_isCalmBehind sCalm
  simp only [m_t3 h ht5, m_t1 h ht5, gm_bs]
  cases e : sBt S (sT S t 3) (sT S t 1) with
  | none =>
    rw [m_sec0 h I]
    · rfl
    · intro s hs q
      have q2 : nI (sT S t 3 + sT S t 1) = nI (s + 1) := by
        rw [← nI_add, ← nI_add, ← q, show nI 1 = 1 from rfl]
        rw [Int32.add_comm (nI (sT S t 3) - 1), Int32.add_assoc, Int32.sub_add_cancel, Int32.add_comm]
      rw [bs_eq (by omega) (by omega)] at q2
      unfold sBt at e
      rw [if_pos ⟨by omega, by omega⟩] at e
      cases e
  | some j =>
    obtain ⟨j1, j2, j3, j4, j5⟩ := m_btj hd e
    have eq : nI (sT S t 3) - 1 + nI (sT S t 1) = nI (j / 2) := by
      rw [j2]
      by_cases z : sT S t 3 = 0
      · have d1 : sT S t 1 = 1 := by omega
        rw [z, d1]; rfl
      · rw [show (1 : Int32) = nI 1 from rfl, bs_sub (by omega), nI_add]
        congr 1
        omega
    have hj : 2 * (j / 2) + sT S t 1 = j := by omega
    simp only [eq, m_sec h I (show j / 2 + 1 < S 1 by omega), gm_bs, if_neg bs_01, m_b0 h (show j / 2 < 5 by omega) hd, hj, bs_l (I.lb _ _) (show 0 < 4294967296 by decide), bs_l (I.lb _ _) (show 3 < 4294967296 by decide)]
    by_cases c1 : sB S j 0 = 0 <;> by_cases c2 : sB S j 0 = 3 <;> simp [c1, c2]
theorem m_shunt (h : MA G S) (I : Inv M S) {t : Nat} (ht : t < S 381) : MS G (fX7_shunt (nI t) G) (sShunt S t) := by
  have tn := I.tn
  have bx := I.bx
  have tr := I.tr ht
  have ht5 : t < 305 := by omega
  have o1 : nI (sT S t 2) ≤ 1 ↔ sT S t 2 ≤ 1 := bs_le (by omega) (by decide)
  unfold fX7_shunt sShunt
  simp only [m_trn h I ht, m_t2 h ht5, m_t3 h ht5, m_t1 h ht5, gm_bs, if_neg bs_01, o1, bs_l (I.lq _ _) (show 0 < 4294967296 by decide), m_y2 ht5, m_free h I (I.lq t 3) (I.lq t 1)]
  by_cases c : sT S t 2 = 0
  · have k1 := h.up (382 + 8 * t + 2) 1
    have e2 := m_t2 k1 ht5
    rw [show sT (su S (382 + 8 * t + 2) 1) t 2 = 1 from su_at _ _ _] at e2
    simp only [c, if_pos, Nat.zero_le, if_true, m_goin h I ht (by omega), gm_bs]
    by_cases q : sHeld S t = false ∧ sCn S (sT S t 3) (sT S t 1) 1 (S 381) < S (18 + 2 * sT S t 3 + sT S t 1)
    · rw [if_pos q, if_pos q, if_neg bs_01, show (1 : Int32) - nI 0 = nI 1 from rfl, e2, gm_bs]
      exact ⟨_, rfl, k1, FrM.rf.up⟩
    · rw [if_neg q, if_neg q, if_pos rfl]
      exact ⟨G, rfl, h, FrM.rf⟩
  · by_cases c1 : sT S t 2 = 1
    · have k1 := h.up (382 + 8 * t + 2) 0
      have e2 := m_t2 k1 ht5
      rw [show sT (su S (382 + 8 * t + 2) 0) t 2 = 0 from su_at _ _ _] at e2
      simp only [c1, Nat.le_refl, if_true, if_neg (show ¬ (1 : Nat) = 0 by decide), m_calm h I ht (by omega), gm_bs]
      cases cf : sFr S (sT S t 3) (sT S t 1) with
      | false =>
        simp only [Bool.false_eq_true, if_false, if_pos, false_and]
        exact ⟨G, rfl, h, FrM.rf⟩
      | true =>
        cases cc : sCalm S t with
        | false =>
          simp only [Bool.false_eq_true, if_false, if_true, if_neg bs_01, if_pos, and_false]
          exact ⟨G, rfl, h, FrM.rf⟩
        | true =>
          simp only [if_true, if_neg bs_01, and_self]
          rw [show (1 : Int32) - nI 1 = nI 0 from rfl, e2, gm_bs]
          exact ⟨_, rfl, k1, FrM.rf.up⟩
    · rw [if_neg (by omega), if_neg c, if_neg c1]
      exact ⟨G, rfl, h, FrM.rf⟩
theorem m_add (h : MA G S) (I : Inv M S) (hn : S 381 < 305) {k d : Nat} (hd : d < 2) : MS G (fX7_add (nI k) (nI d) G) (sAdd S k d) := by
  have bx := I.bx
  have hx : fX7_firstBox (nI d) (gm_up (gm_up (gm_up G 8 5 0 (382 + 8 * S 381 + 0) (nI k)) 8 5 0 (382 + 8 * S 381 + 1) (nI d)) 8 5 0 (382 + 8 * S 381 + 2) 0) = some (nI (sFirst S d)) := by
    have k3 := ((h.up (382 + 8 * S 381 + 0) k).up (382 + 8 * S 381 + 1) d).up (382 + 8 * S 381 + 2) 0
    have e1 := k3 1 (by decide)
    rw [su_ne (by omega), su_ne (by omega), su_ne (by omega), show nI 0 = 0 from rfl] at e1
    unfold fX7_firstBox sFirst
    rw [e1, show (1 : Int32) = nI 1 from rfl, bs_sub (by omega)]
    simp only [bs_l (show d < 4294967296 by omega) (show 0 < 4294967296 by decide)]
    split <;> rfl
  have k6 := (((((h.up (382 + 8 * S 381 + 0) k).up (382 + 8 * S 381 + 1) d).up (382 + 8 * S 381 + 2) 0).up (382 + 8 * S 381 + 3) (sFirst S d)).up (382 + 8 * S 381 + 4) 0).up (382 + 8 * S 381 + 5) 1
  have e0 := k6 0 (by decide)
  rw [su_ne (by omega), su_ne (by omega), su_ne (by omega), su_ne (by omega), su_ne (by omega), su_ne (by omega), show nI 0 = 0 from rfl, show nI 1 = 1 from rfl] at e0
  have k8 := (k6.up (382 + 8 * S 381 + 6) (S 0)).up (382 + 8 * S 381 + 7) NN
  have e8 := k8 381 (by decide)
  rw [su_ne (by omega), su_ne (by omega), su_ne (by omega), su_ne (by omega), su_ne (by omega), su_ne (by omega), su_ne (by omega), su_ne (by omega), nI_NN, show nI 0 = 0 from rfl, show nI 1 = 1 from rfl] at e8
  unfold fX7_add sAdd
  simp only [h 381 (by decide), m_y0 hn, m_y1 hn, m_y2 hn, m_y3 hn, m_y4 hn, m_y5 hn, m_y6 hn, m_y7 hn, gm_bs, hx, e0, e8, nI_1]
  have k9 := k8.up 381 (S 381 + 1)
  rw [nI_NN, show nI 0 = 0 from rfl, show nI 1 = 1 from rfl] at k9
  exact ⟨_, rfl, k9, FrM.rf.up.up.up.up.up.up.up.up.up⟩
end
