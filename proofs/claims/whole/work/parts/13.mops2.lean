section
variable {G : Gm} {S : Sm} {M : Nat}
theorem gi_b {α : Type} {j w : Nat} {f : Nat → Option α} (hj : j < 10) (hw : w < 5) : gm_gi (nI (30 + 5 * j + w)) 2862 f = f (30 + 5 * j + w) := gm_gin (by omega) (by decide)
theorem m_unc (h : MA G S) {s d : Nat} (hs5 : s < 5) (hd : d < 2) (h2 : S 2 < 32) (hn : sB S (2 * s + d) 0 < 4294967296) : ∃ G', fX7_unclear (nI s) (nI d) G = some G' ∧ MA G' (sUnc S (2 * s + d)) ∧ FrM G G' := by
  have hj : (2 * s + d) / 2 = s := by omega
  have hj2 : (2 * s + d) % 2 = d := by omega
  have hrr : sRr (2 * s + d) = s + d := by unfold sRr; omega
  have tk : 8 + 2 * s + (s + d - s) = 8 + 2 * s + d := by omega
  unfold fX7_unclear sUnc
  simp only [m_b0 h hs5 hd, gm_bs, bs_l hn (show 1 < 4294967296 by decide), m_p2, gi_b (show 2 * s + d < 10 by omega) (show 2 < 5 by decide), m_rear hd, hrr, m_tok (show s ≤ s + d by omega), tk, gm_gin (show 8 + 2 * s + d < 2862 by omega) (show 2862 < 2147483648 by decide), hj, hj2]
  by_cases c : sB S (2 * s + d) 0 = 1
  · rw [if_pos c, if_pos c, ← nI_NN]
    have k1 := h.up (30 + 5 * (2 * s + d) + 2) NN
    have e2' : su S (30 + 5 * (2 * s + d) + 2) NN 2 = S 2 := su_ne (by omega)
    have esg := m_sg k1 (by rw [e2']; exact h2) hs5
    rw [show sSg (su S (30 + 5 * (2 * s + d) + 2) NN) s = sSg S s by unfold sSg; rw [e2']] at esg
    have etk := k1 (8 + 2 * s + d) (by omega)
    rw [su_ne (by omega)] at etk
    rw [esg, gm_bs, etk]
    cases cs : sSg S s with
    | false => exact ⟨_, rfl, by rw [Int32.add_zero]; exact k1.up _ _, FrM.rf.up.up⟩
    | true => exact ⟨_, rfl, by rw [nI_1]; exact k1.up _ _, FrM.rf.up.up⟩
  · rw [if_neg c, if_neg c]
    exact ⟨G, rfl, h, FrM.rf⟩
theorem sUnc_80 (j : Nat) (hj : j < 10) : sUnc S j 80 = S 80 := by
  unfold sUnc
  split
  · rw [su_ne (by omega), su_ne (by omega)]
  · rfl
theorem m_cancel (h : MA G S) (I : Inv M S) (hr : S 80 < 2147483648) {s d : Nat} (hs : s + 1 < S 1) (hd : d < 2) : MS G (fX7_cancel (nI s) (nI d) G) (sCancel S (2 * s + d)) := by
  have bx := I.bx
  have nn : NN = 4294967290 := rfl
  have hs5 : s < 5 := by omega
  have hj10 : 2 * s + d < 10 := by omega
  have bk := I.bk hj10
  have tn := I.tn
  have o1 : 0 ≤ nI (sB S (2 * s + d) 1) ↔ ¬ sB S (2 * s + d) 1 = NN := by rw [bs_ge (I.lb _ _)]; omega
  have k1 := h.up (30 + 5 * (2 * s + d) + 1) NN
  have e0 : sB (su S (30 + 5 * (2 * s + d) + 1) NN) (2 * s + d) 0 = sB S (2 * s + d) 0 := su_ne (by omega)
  unfold fX7_cancel sCancel
  simp only [m_blk h I hs hd, m_b0 h hs5 hd, m_b1 h hs5 hd, gm_bs, if_neg bs_01, bs_l (I.lb _ _) (show 1 < 4294967296 by decide), o1, m_p1, m_p0, gi_b hj10 (show 1 < 5 by decide), gi_b hj10 (show 0 < 5 by decide), m_rear hd]
  by_cases c : sB S (2 * s + d) 0 = 1
  · have cn : ¬ (sB S (2 * s + d) 1 = NN ∧ sB S (2 * s + d) 0 ≠ 1) := fun q => q.2 c
    have key : MS G ((fX7_unclear (nI s) (nI d) (gm_up G 8 5 0 (30 + 5 * (2 * s + d) + 1) (-6))).bind fun q10 => (fX7_ring (nI s) (nI d) (nI (sRr (2 * s + d))) 35 (gm_up q10 8 5 0 (30 + 5 * (2 * s + d) + 0) 0)).bind fun q14 => some (q14.1, q14.2)) (35, sRing (su (sUnc (su S (30 + 5 * (2 * s + d) + 1) NN) (2 * s + d)) (30 + 5 * (2 * s + d) + 0) 0) (2 * s + d) (sRr (2 * s + d)) 35) := by
      rw [← nI_NN]
      obtain ⟨G1, g1, g2, g3⟩ := m_unc k1 hs5 hd (by rw [su_ne (by omega)]; exact bx.2.2) (by rw [e0]; exact I.lb _ _)
      obtain ⟨G', e, m1, m2⟩ := m_ring (g2.up (30 + 5 * (2 * s + d) + 0) 0) (s := s) (d := d) (x := sRr (2 * s + d)) (c := 35) (y := 35) rfl hd (by rw [su_ne (by omega), sUnc_80 _ hj10, su_ne (by omega)]; exact hr)
      rw [g1, gm_bs, show (0 : Int32) = nI 0 from rfl, e]
      exact ⟨G', rfl, m1, ((FrM.rf.up).tr g3).up.tr m2⟩
    rw [if_pos c, if_neg cn]
    split <;> exact key
  · rw [if_neg c]
    by_cases c1 : sB S (2 * s + d) 1 = NN
    · rw [if_neg (fun q => q c1), if_pos ⟨c1, c⟩]
      exact ⟨G, rfl, h, FrM.rf⟩
    · rw [if_pos c1, if_neg (fun q => c1 q.1)]
      have es : su (sUnc (su S (30 + 5 * (2 * s + d) + 1) NN) (2 * s + d)) (30 + 5 * (2 * s + d) + 0) 0 = su S (30 + 5 * (2 * s + d) + 1) NN := by
        unfold sUnc
        rw [if_neg (by rw [e0]; exact c)]
        funext k
        unfold su
        by_cases q : k = 30 + 5 * (2 * s + d) + 0
        · rw [if_pos q, if_neg (by omega), q]
          exact (bk.2.2.2.2.2.2.1 c1).symm
        · rw [if_neg q]
      obtain ⟨G', e, m1, m2⟩ := m_ring k1 (s := s) (d := d) (x := sRr (2 * s + d)) (c := 35) (y := 35) rfl hd (by rw [su_ne (by omega)]; exact hr)
      rw [← nI_NN, e, es]
      exact ⟨G', rfl, m1, (FrM.rf.up).tr m2⟩
theorem m_obst (h : MA G S) (I : Inv M S) (hr : S 80 < 2147483648) {s d : Nat} (hs : s + 1 < S 1) (hd : d < 2) : MS G (fX7_obstruct (nI s) (nI d) G) (sObst S (2 * s + d)) := by
  have bx := I.bx
  have hs5 : s < 5 := by omega
  have hj10 : 2 * s + d < 10 := by omega
  have bk := I.bk hj10
  have o1 : nI (sB S (2 * s + d) 0) ≤ 1 ↔ sB S (2 * s + d) 0 ≤ 1 := bs_le (by omega) (by decide)
  unfold fX7_obstruct sObst
  simp only [m_blk h I hs hd, m_b0 h hs5 hd, gm_bs, if_neg bs_01, o1, m_p1, m_p0, gi_b hj10 (show 1 < 5 by decide), gi_b hj10 (show 0 < 5 by decide), m_ahead hd]
  by_cases c : sB S (2 * s + d) 0 ≤ 1
  · rw [if_pos c, if_pos c]
    obtain ⟨G1, g1, g2, g3⟩ := m_unc h hs5 hd bx.2.2 (I.lb _ _)
    obtain ⟨G', e, m1, m2⟩ := m_ring ((g2.up (30 + 5 * (2 * s + d) + 1) NN).up (30 + 5 * (2 * s + d) + 0) 3) (s := s) (d := d) (x := sAh (2 * s + d)) (c := 6) (y := 6) rfl hd (by rw [su_ne (by omega), su_ne (by omega), sUnc_80 _ hj10]; exact hr)
    rw [g1, gm_bs, ← nI_NN, show (3 : Int32) = nI 3 from rfl, e]
    exact ⟨G', rfl, m1, g3.up.up.tr m2⟩
  · rw [if_neg c, if_neg c]
    exact ⟨G, rfl, h, FrM.rf⟩
theorem m_ins (h : MA G S) (I : Inv M S) {s d : Nat} (hs5 : s < 5) (hd : d < 2) : fX7_isInside (nI s) (nI d) G = some (if sIn S (2 * s + d) then 1 else 0) := by
  have nn : NN = 4294967290 := rfl
  have hj10 : 2 * s + d < 10 := by omega
  have hj : (2 * s + d) / 2 = s := by omega
  have bk := I.bk hj10
  have tn := I.tn
  unfold fX7_isInside sIn
  simp only [m_b2 h hs5 hd, gm_bs, m_own I hj10, hj]
  by_cases c : sB S (2 * s + d) 2 = NN
  · rw [if_pos c, if_neg (by rw [decide_eq_true_iff]; exact fun q => q.1 c)]
  · have ht5 : sB S (2 * s + d) 2 < 305 := by omega
    simp only [if_neg c, m_t2 h ht5, m_t3 h ht5, gm_bs, bs_l (I.lq _ _) (show 2 < 4294967296 by decide), bs_eq (I.lq _ _) (show s < 4294967296 by omega)]
    by_cases c1 : sT S (sB S (2 * s + d) 2) 2 = 2 <;> by_cases c2 : sT S (sB S (2 * s + d) 2) 3 = s <;> simp [c, c1, c2]
theorem m_admit (h : MA G S) (I : Inv M S) {s d : Nat} (hs : s + 1 < S 1) (hd : d < 2) : MS G (fX7_admit (nI s) (nI d) G) (sAdmit S (2 * s + d)) := by
  have bx := I.bx
  have nn : NN = 4294967290 := rfl
  have hs5 : s < 5 := by omega
  have hj10 : 2 * s + d < 10 := by omega
  have hj2 : (2 * s + d) % 2 = d := by omega
  have bk := I.bk hj10
  have tn := I.tn
  have ha : sAh (2 * s + d) < 4294967296 := by unfold sAh; omega
  unfold fX7_admit sAdmit
  simp only [m_blk h I hs hd, m_b2 h hs5 hd, gm_bs, if_neg bs_01, m_ahead hd, m_ins h I hs5 hd, m_free h I ha (show d < 4294967296 by omega), hj2]
  cases ci : sIn S (2 * s + d) with
  | false =>
    simp only [Bool.false_eq_true, if_false, if_pos, false_and]
    exact ⟨G, rfl, h, FrM.rf⟩
  | true =>
    have ht5 : sB S (2 * s + d) 2 < 305 := by
      unfold sIn at ci
      have := (decide_eq_true_iff.mp ci).1
      omega
    have htn : sB S (2 * s + d) 2 < S 381 := by
      unfold sIn at ci
      have := (decide_eq_true_iff.mp ci).1
      omega
    have tr := I.tr htn
    have o4 : (0 : Int32) < nI (sT S (sB S (2 * s + d) 2) 4) ↔ ¬ sT S (sB S (2 * s + d) 2) 4 = 0 := by
      rw [show (0 : Int32) = nI 0 from rfl, bs_lt (by decide) (by omega)]; omega
    simp only [if_true, if_neg bs_01, m_t4 h ht5, gm_bs, o4, true_and, m_y2 ht5, m_y3 ht5]
    by_cases c4 : sT S (sB S (2 * s + d) 2) 4 = 0
    · rw [if_neg (fun q => q c4)]
      cases cf : sFr S (sAh (2 * s + d)) d with
      | false =>
        simp only [Bool.false_eq_true, if_false, if_pos, and_false]
        exact ⟨G, rfl, h, FrM.rf⟩
      | true =>
        simp only [if_true, if_neg bs_01, c4, and_self]
        exact ⟨_, rfl, (h.up (382 + 8 * sB S (2 * s + d) 2 + 2) 0).up (382 + 8 * sB S (2 * s + d) 2 + 3) (sAh (2 * s + d)), FrM.rf.up.up⟩
    · rw [if_pos c4, if_neg (fun q => c4 q.1)]
      exact ⟨G, rfl, h, FrM.rf⟩
end
