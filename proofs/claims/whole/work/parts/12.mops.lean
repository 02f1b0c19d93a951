theorem bs_01 : ¬ (1 : Int32) = 0 := by decide
section
variable {G : Gm} {S : Sm} {M : Nat}
theorem m_nx (h : MA G S) (I : Inv M S) {t : Nat} (ht : t < S 381) (h1 : sT S t 2 ≤ 1) : fX7_nextSection (nI t) G = some (match sNx S (sT S t 3) (sT S t 1) with | none => -6 | some j => nI (j / 2)) := by
  have tn := I.tn
  have bx := I.bx
  have tr := I.tr ht
  have ht5 : t < 305 := by omega
  unfold fX7_nextSection
  simp only [m_t3 h ht5, m_t1 h ht5, gm_bs]
  unfold sNx
  by_cases c : sT S t 1 ≤ sT S t 3 ∧ sT S t 3 - sT S t 1 + 1 < S 1
  · rw [if_pos c, bs_sub c.1, m_sec h I c.2, gm_bs, if_neg bs_01]
    simp only
    congr 2
    omega
  · rw [if_neg c, m_sec0 h I, gm_bs, if_pos rfl]
    intro s hs e
    have : nI (sT S t 3) = nI (s + sT S t 1) := by
      rw [← nI_add, ← e, Int32.sub_add_cancel]
    rw [bs_eq (by omega) (by omega)] at this
    exact c ⟨by omega, by omega⟩
theorem m_nxj {x d j : Nat} (hd : d < 2) (e : sNx S x d = some j) : j = 2 * (x - d) + d ∧ j / 2 = x - d ∧ j % 2 = d ∧ d ≤ x ∧ x - d + 1 < S 1 := by
  unfold sNx at e
  split at e
  · cases e
    omega
  · cases e
theorem m_offer (h : MA G S) (I : Inv M S) (hr : S 80 < 2147483648) {t : Nat} (ht : t < S 381) : MS G (fX7_offer (nI t) G) (sOffer S t) := by
  have tn := I.tn
  have bx := I.bx
  have tr := I.tr ht
  have ht5 : t < 305 := by omega
  unfold fX7_offer sOffer
  simp only [m_trn h I ht, m_t2 h ht5, m_t1 h ht5, gm_bs, if_neg bs_01, bs_l (I.lq _ _) (show 0 < 4294967296 by decide)]
  by_cases c : sT S t 2 = 0
  · simp only [if_pos c, m_nx h I ht (by omega), gm_bs]
    cases e : sNx S (sT S t 3) (sT S t 1) with
    | none => exact ⟨G, rfl, h, FrM.rf⟩
    | some j =>
      obtain ⟨j1, j2, j3, j4, j5⟩ := m_nxj (by omega) e
      have hs5 : j / 2 < 5 := by omega
      have hd : sT S t 1 < 2 := by omega
      have hj : 2 * (j / 2) + sT S t 1 = j := by omega
      have hn : ¬ nI (j / 2) < 0 := by rw [bs_neg (by omega)]; omega
      have bk := I.bk (j := j) (by omega)
      simp only [if_neg hn, m_b0 h hs5 hd, m_b1 h hs5 hd, m_p1, m_rear hd, gm_bs, hj, bs_l (I.lb _ _) (show 0 < 4294967296 by decide), bs_neg (I.lb _ _)]
      by_cases c1 : sB S j 0 = 0
      · by_cases c2 : sB S j 1 = NN
        · have k0 := (h.up (30 + 5 * j + 1) t)
          have e0 := m_t0 k0 ht5
          rw [show sT (su S (30 + 5 * j + 1) t) t 0 = sT S t 0 from su_ne (by omega)] at e0
          rw [if_pos c1, if_pos (by rw [c2]; decide), if_pos ⟨c1, c2⟩, gm_gin (by omega) (by decide), e0, gm_bs, m_code (I.lq _ _), gm_bs]
          obtain ⟨G', e, m1, m2⟩ := m_ring k0 (s := j / 2) (d := sT S t 1) (x := sRr j) (c := sCo (sT S t 0)) (y := nI (sCo (sT S t 0))) rfl hd (by rw [su_ne (by omega)]; exact hr)
          rw [hj] at m1
          exact ⟨G', by rw [e]; rfl, m1, (FrM.rf.up).tr m2⟩
        · rw [if_pos c1, if_neg (by omega), if_neg (fun q => c2 q.2)]
          exact ⟨G, rfl, h, FrM.rf⟩
      · rw [if_neg c1, if_neg (fun q => c1 q.1)]
        exact ⟨G, rfl, h, FrM.rf⟩
  · simp only [if_neg c]
    exact ⟨G, rfl, h, FrM.rf⟩
theorem m_off (I : Inv M S) {j : Nat} (hj : j < 10) : (nI (sB S j 1) < 0) ↔ sB S j 1 = NN := by
  have bk := I.bk hj
  have tn := I.tn
  have nn : NN = 4294967290 := rfl
  rw [bs_neg (I.lb _ _)]
  omega
theorem m_own (I : Inv M S) {j : Nat} (hj : j < 10) : (nI (sB S j 2) < 0) ↔ sB S j 2 = NN := by
  have bk := I.bk hj
  have tn := I.tn
  have nn : NN = 4294967290 := rfl
  rw [bs_neg (I.lb _ _)]
  omega
theorem m_refuse (h : MA G S) (I : Inv M S) (hr : S 80 < 2147483648) {s d : Nat} (hs : s + 1 < S 1) (hd : d < 2) : MS G (fX7_answer (nI s) (nI d) 0 G) (sRefuse S (2 * s + d)) := by
  have bx := I.bx
  have hs5 : s < 5 := by omega
  have i1 : 30 + 5 * (2 * s + d) + 1 < 2862 := by omega
  unfold fX7_answer sRefuse
  simp only [m_blk h I hs hd, m_b1 h hs5 hd, gm_bs, m_p1, m_ahead hd, m_off I (show 2 * s + d < 10 by omega), gm_gin i1 (show 2862 < 2147483648 by decide), if_neg bs_01, if_pos (show (0 : Int32) = 0 from rfl)]
  by_cases c : sB S (2 * s + d) 1 = NN
  · rw [if_pos c, if_pos c]
    exact ⟨G, rfl, h, FrM.rf⟩
  · rw [if_neg c, if_neg c]
    obtain ⟨G', e, m1, m2⟩ := m_ring (h.up (30 + 5 * (2 * s + d) + 1) NN) (s := s) (d := d) (x := sAh (2 * s + d)) (c := 1) (y := 1) rfl hd (by rw [su_ne (by omega)]; exact hr)
    refine ⟨G', ?_, m1, (FrM.rf.up).tr m2⟩
    rw [← nI_NN, e]
    rfl
theorem m_to_h (h : MA G S) (I : Inv M S) {s : Nat} (hs : s < 5) : fX7_isTokenOut (nI s) G = some (if sTo S s then 1 else 0) := by
  have b0 : fX7_ofBlock (nI s) 0 0 G = some (nI (sB S (2 * s + 0) 0)) := m_b0 h hs (show 0 < 2 by decide)
  have b1 := m_b0 h hs (show 1 < 2 by decide)
  have in12 : ∀ k, k < 4294967296 → fX7_in (nI k) 1 2 = some (if k = 1 ∨ k = 2 then 1 else 0) := by
    intro k hk
    by_cases c : k = 1 ∨ k = 2
    · rw [if_pos c, m_in1 (x := nI k) (y := 1) (z := 2) (a := k) (b := 1) (c := 2) rfl rfl rfl (by omega) (by decide) (by decide) (by omega)]
    · rw [if_neg c, m_in0]
      by_cases q : nI k < 0
      · exact Or.inl (Int32.lt_trans q (by decide))
      · rw [bs_neg hk] at q
        rw [show (1 : Int32) = nI 1 from rfl, show (2 : Int32) = nI 2 from rfl, bs_lt (by omega) (by decide), bs_lt (by decide) (by omega)]
        omega
  unfold fX7_isTokenOut
  rw [fX7_isTokenOut_h4.eq_2, if_neg (by decide), if_pos rfl, b0, gm_bs, in12 _ (I.lb _ _), gm_bs]
  have sg := m_sg h I.bx.2.2 hs
  have o0 : sOn S (2 * s) = decide (sB S (2 * s + 0) 0 = 1 ∨ sB S (2 * s + 0) 0 = 2) := rfl
  have o1 : sOn S (2 * s + 1) = decide (sB S (2 * s + 1) 0 = 1 ∨ sB S (2 * s + 1) 0 = 2) := rfl
  unfold sTo
  by_cases c0 : sB S (2 * s + 0) 0 = 1 ∨ sB S (2 * s + 0) 0 = 2
  · rw [if_pos c0, if_neg bs_01, fX7_isTokenOut_h4.eq_2, if_neg (by decide), if_neg bs_01, fX7_isTokenOut_h4.eq_2, if_pos (by decide), sg, gm_bs, o0, decide_eq_true c0]
    cases sSg S s <;> simp
  · rw [if_neg c0, if_pos rfl, fX7_isTokenOut_h4.eq_2, if_neg (by decide), if_pos rfl, show (0 + 1 : Int32) = nI 1 from rfl, b1, gm_bs, in12 _ (I.lb _ _), gm_bs, o0, decide_eq_false c0]
    by_cases c1 : sB S (2 * s + 1) 0 = 1 ∨ sB S (2 * s + 1) 0 = 2
    · rw [if_pos c1, if_neg bs_01, fX7_isTokenOut_h4.eq_2, if_pos (by decide), sg, gm_bs, o1, decide_eq_true c1]
      cases sSg S s <;> simp
    · rw [if_neg c1, if_pos rfl, fX7_isTokenOut_h4.eq_2, if_pos (by decide), sg, gm_bs, o1, decide_eq_false c1]
      cases sSg S s <;> simp
theorem m_acc (h : MA G S) (I : Inv M S) {s d : Nat} (hs : s + 1 < S 1) (hd : d < 2) : fX7_canAccept (nI s) (nI d) G = some (if sFr S (sAh (2 * s + d)) ((2 * s + d) % 2) ∧ sTk S (2 * s + d) then 1 else 0) := by
  have bx := I.bx
  have hs5 : s < 5 := by omega
  have hj : (2 * s + d) / 2 = s := by omega
  have hj2 : (2 * s + d) % 2 = d := by omega
  have ha : sAh (2 * s + d) < 4294967296 := by unfold sAh; omega
  have ho : sOp (2 * s + d) = 2 * s + (1 - d) := by unfold sOp; omega
  have hrr : sRr (2 * s + d) = s + d := by unfold sRr; omega
  unfold fX7_canAccept
  simp only [m_sg h bx.2.2 hs5, m_ahead hd, m_free h I ha (show d < 4294967296 by omega), gm_bs, hj2, sTk, hj, ho]
  have hx := (I.sc hs5).2.2.1
  have hz : S (8 + 2 * s + d) ≤ 10 := by
    rcases (show d = 0 ∨ d = 1 by omega) with rfl | rfl
    · exact Nat.le_trans (Nat.le_add_right _ _) hx
    · omega
  have e3 : nI (S (8 + 2 * s + d)) ≤ 0 ↔ ¬ 0 < S (8 + 2 * s + d) := by
    rw [show (0 : Int32) = nI 0 from rfl, bs_le (by omega) (by decide)]; omega
  have e1 : (1 : Int32) - nI d = nI (1 - d) := by rw [show (1 : Int32) = nI 1 from rfl, bs_sub (by omega)]
  have ed : s + d - s = d := by omega
  simp only [e1, m_b0 h hs5 (show 1 - d < 2 by omega), gm_bs, bs_l (I.lb _ _) (show 0 < 4294967296 by decide), m_to_h h I hs5, m_rear hd, hrr, m_tok (show s ≤ s + d by omega), ed, gm_gin (show 8 + 2 * s + d < 2862 by omega) (show 2862 < 2147483648 by decide), h _ (show 8 + 2 * s + d < 2862 by omega), e3]
  cases cs : sSg S s <;> cases c2 : sTo S s <;> cases c4 : sFr S (sAh (2 * s + d)) d <;> by_cases c1 : sB S (2 * s + (1 - d)) 0 = 0 <;> by_cases c3 : 0 < S (8 + 2 * s + d) <;> simp [c1, c3]
theorem m_accept (h : MA G S) (I : Inv M S) (hr : S 80 < 2147483648) {s d : Nat} (hs : s + 1 < S 1) (hd : d < 2) {y : Int32} (hy : ¬ y = 0) : MS G (fX7_answer (nI s) (nI d) y G) (sAccept S (2 * s + d)) := by
  have bx := I.bx
  have tn := I.tn
  have nn : NN = 4294967290 := rfl
  have hs5 : s < 5 := by omega
  have hj : (2 * s + d) / 2 = s := by omega
  have hj2 : (2 * s + d) % 2 = d := by omega
  have hrr : sRr (2 * s + d) = s + d := by unfold sRr; omega
  have bk := I.bk (show 2 * s + d < 10 by omega)
  have tk : 8 + 2 * s + (s + d - s) = 8 + 2 * s + d := by omega
  unfold fX7_answer sAccept
  simp only [m_blk h I hs hd, m_b1 h hs5 hd, gm_bs, m_p0, m_p1, m_p2, m_ahead hd, m_rear hd, hrr, m_tok (show s ≤ s + d by omega), tk, m_off I (show 2 * s + d < 10 by omega), m_acc h I hs hd, if_neg bs_01, if_neg hy, gm_gin (show 30 + 5 * (2 * s + d) + 0 < 2862 by omega) (show 2862 < 2147483648 by decide), gm_gin (show 30 + 5 * (2 * s + d) + 1 < 2862 by omega) (show 2862 < 2147483648 by decide), gm_gin (show 30 + 5 * (2 * s + d) + 2 < 2862 by omega) (show 2862 < 2147483648 by decide), gm_gin (show 8 + 2 * s + d < 2862 by omega) (show 2862 < 2147483648 by decide)]
  by_cases c : sB S (2 * s + d) 1 = NN
  · rw [if_pos c, if_neg (fun q => q.1 c)]
    exact ⟨G, rfl, h, FrM.rf⟩
  · rw [if_neg c]
    by_cases c2 : sFr S (sAh (2 * s + d)) ((2 * s + d) % 2) ∧ sTk S (2 * s + d)
    · rw [if_pos c2, if_neg bs_01, if_pos ⟨c, c2⟩]
      have k3 := ((h.up (30 + 5 * (2 * s + d) + 1) NN).up (30 + 5 * (2 * s + d) + 0) 1).up (30 + 5 * (2 * s + d) + 2) (sB S (2 * s + d) 1)
      have e2 : su (su (su S (30 + 5 * (2 * s + d) + 1) NN) (30 + 5 * (2 * s + d) + 0) 1) (30 + 5 * (2 * s + d) + 2) (sB S (2 * s + d) 1) 2 = S 2 := by rw [su_ne (by omega), su_ne (by omega), su_ne (by omega)]
      have esg := m_sg k3 (by rw [e2]; exact bx.2.2) hs5
      rw [show sSg (su (su (su S (30 + 5 * (2 * s + d) + 1) NN) (30 + 5 * (2 * s + d) + 0) 1) (30 + 5 * (2 * s + d) + 2) (sB S (2 * s + d) 1)) s = sSg S s by unfold sSg; rw [e2]] at esg
      have etk := k3 (8 + 2 * s + d) (by omega)
      rw [su_ne (by omega), su_ne (by omega), su_ne (by omega)] at etk
      have ht5 : sB S (2 * s + d) 1 < 305 := by omega
      have key : ∀ v, MS G ((fX7_ofTrain (nI (sB S (2 * s + d) 1)) 0 (gm_up (gm_up (gm_up (gm_up G 8 5 0 (30 + 5 * (2 * s + d) + 1) (nI NN)) 8 5 0 (30 + 5 * (2 * s + d) + 0) (nI 1)) 8 5 0 (30 + 5 * (2 * s + d) + 2) (nI (sB S (2 * s + d) 1))) 8 5 0 (8 + 2 * s + d) (nI v))).bind fun q48 => (fX7_codeOf q48).bind fun q49 => (fX7_ring (nI s) (nI d) (nI (sAh (2 * s + d))) q49 (gm_up (gm_up (gm_up (gm_up G 8 5 0 (30 + 5 * (2 * s + d) + 1) (nI NN)) 8 5 0 (30 + 5 * (2 * s + d) + 0) (nI 1)) 8 5 0 (30 + 5 * (2 * s + d) + 2) (nI (sB S (2 * s + d) 1))) 8 5 0 (8 + 2 * s + d) (nI v))).bind fun q50 => some (q50.1, q50.2)) (sCo (sT S (sB S (2 * s + d) 1) 0), sRing (su (su (su (su S (30 + 5 * (2 * s + d) + 1) NN) (30 + 5 * (2 * s + d) + 0) 1) (30 + 5 * (2 * s + d) + 2) (sB S (2 * s + d) 1)) (8 + 2 * s + d) v) (2 * s + d) (sAh (2 * s + d)) (sCo (sT S (sB S (2 * s + d) 1) 0))) := by
        intro v
        have k4 := k3.up (8 + 2 * s + d) v
        have et := m_t0 k4 ht5
        rw [show sT (su (su (su (su S (30 + 5 * (2 * s + d) + 1) NN) (30 + 5 * (2 * s + d) + 0) 1) (30 + 5 * (2 * s + d) + 2) (sB S (2 * s + d) 1)) (8 + 2 * s + d) v) (sB S (2 * s + d) 1) 0 = sT S (sB S (2 * s + d) 1) 0 by unfold sT; rw [su_ne (by omega), su_ne (by omega), su_ne (by omega), su_ne (by omega)]] at et
        rw [et, gm_bs, m_code (I.lq _ _), gm_bs]
        obtain ⟨G', e, m1, m2⟩ := m_ring k4 (s := s) (d := d) (x := sAh (2 * s + d)) (c := sCo (sT S (sB S (2 * s + d) 1) 0)) (y := nI (sCo (sT S (sB S (2 * s + d) 1) 0))) rfl hd (by rw [su_ne (by omega), su_ne (by omega), su_ne (by omega), su_ne (by omega)]; exact hr)
        exact ⟨G', by rw [e]; rfl, m1, (FrM.rf.up.up.up.up).tr m2⟩
      have esg' : fX7_isSingle (nI s) (gm_up (gm_up (gm_up G 8 5 0 (30 + 5 * (2 * s + d) + 1) (-6)) 8 5 0 (30 + 5 * (2 * s + d) + 0) 1) 8 5 0 (30 + 5 * (2 * s + d) + 2) (nI (sB S (2 * s + d) 1))) = some (if sSg S s = true then 1 else 0) := by rw [← nI_NN]; exact esg
      have etk' : gm_up (gm_up (gm_up G 8 5 0 (30 + 5 * (2 * s + d) + 1) (-6)) 8 5 0 (30 + 5 * (2 * s + d) + 0) 1) 8 5 0 (30 + 5 * (2 * s + d) + 2) (nI (sB S (2 * s + d) 1)) 8 5 0 (8 + 2 * s + d) = nI (S (8 + 2 * s + d)) := by rw [← nI_NN]; exact etk
      rw [esg', gm_bs, hj, hj2]
      cases cs : sSg S s with
      | false =>
        have := key (S (8 + 2 * s + d))
        simp only [cs, if_pos rfl, if_false, Bool.false_eq_true, etk', Int32.sub_zero, Nat.sub_zero]
        rw [← nI_NN]
        exact this
      | true =>
        have h0 : 0 < S (8 + 2 * s + d) := by
          have := c2.2
          unfold sTk at this
          rw [hj, hj2, cs] at this
          simp at this
          exact this.2.2
        have := key (S (8 + 2 * s + d) - 1)
        simp only [cs, if_true, if_neg bs_01, etk', show nI (S (8 + 2 * s + d)) - 1 = nI (S (8 + 2 * s + d) - 1) from bs_sub h0]
        rw [← nI_NN]
        exact this
    · rw [if_neg c2, if_pos rfl, if_neg (fun q => c2 q.2)]
      exact ⟨G, rfl, h, FrM.rf⟩
end
