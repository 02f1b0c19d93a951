section
variable {G : Gm} {S : Sm} {M : Nat}
theorem m_out (h : MA G S) (I : Inv M S) (hr : S 80 < 2147483648) {s d : Nat} (hs : s + 1 < S 1) (hd : d < 2) : MS G (fX7_out (nI s) (nI d) G) (sOut S (2 * s + d)) := by
  have bx := I.bx
  have hs5 : s < 5 := by omega
  have hj10 : 2 * s + d < 10 := by omega
  have hj : (2 * s + d) / 2 = s := by omega
  have hj2 : (2 * s + d) % 2 = d := by omega
  have bk := I.bk hj10
  have ha : sAh (2 * s + d) = s + (1 - d) := by unfold sAh; omega
  have tk : 8 + 2 * s + (s + (1 - d) - s) = 8 + 2 * s + (1 - d) := by omega
  have eah := m_ahead (s := s) hd
  rw [ha] at eah
  unfold fX7_out sOut
  simp only [m_blk h I hs hd, m_b0 h hs5 hd, m_b3 h hs5 hd, gm_bs, if_neg bs_01, eah, m_ins h I hs5 hd, bs_l (I.lb _ _) (show 2 < 4294967296 by decide), bs_l (I.lb _ _) (show 1 < 4294967296 by decide), m_p0, m_p2, gi_b hj10 (show 0 < 5 by decide), gi_b hj10 (show 2 < 5 by decide), m_tok (show s ≤ s + (1 - d) by omega), tk, gm_gin (show 8 + 2 * s + (1 - d) < 2862 by omega) (show 2862 < 2147483648 by decide), hj, hj2, ha]
  by_cases c : sB S (2 * s + d) 0 = 2
  · rw [if_pos c]
    cases ci : sIn S (2 * s + d) with
    | true =>
      simp only [if_true, if_neg bs_01, Bool.true_eq_false, false_and, and_false, if_false]
      exact ⟨G, rfl, h, FrM.rf⟩
    | false =>
      simp only [Bool.false_eq_true, if_false, if_pos, true_and, c]
      by_cases c3 : sB S (2 * s + d) 3 = 1
      · rw [if_pos c3, if_neg (fun q => q c3)]
        exact ⟨G, rfl, h, FrM.rf⟩
      · rw [if_neg c3, if_pos c3]
        have k2 := (h.up (30 + 5 * (2 * s + d) + 0) 0).up (30 + 5 * (2 * s + d) + 2) NN
        have e2' : su (su S (30 + 5 * (2 * s + d) + 0) 0) (30 + 5 * (2 * s + d) + 2) NN 2 = S 2 := by rw [su_ne (by omega), su_ne (by omega)]
        have esg := m_sg k2 (by rw [e2']; exact bx.2.2) hs5
        rw [show sSg (su (su S (30 + 5 * (2 * s + d) + 0) 0) (30 + 5 * (2 * s + d) + 2) NN) s = sSg S s by unfold sSg; rw [e2']] at esg
        have etk := k2 (8 + 2 * s + (1 - d)) (by omega)
        rw [su_ne (by omega), su_ne (by omega)] at etk
        rw [nI_NN] at esg etk
        rw [show nI 0 = 0 from rfl] at esg etk
        rw [esg, gm_bs, etk]
        have key : ∀ v, MS G ((fX7_ring (nI s) (nI d) (nI (s + (1 - d))) 21 (gm_up (gm_up (gm_up G 8 5 0 (30 + 5 * (2 * s + d) + 0) 0) 8 5 0 (30 + 5 * (2 * s + d) + 2) (-6)) 8 5 0 (8 + 2 * s + (1 - d)) (nI v))).bind fun q19 => some (q19.1, q19.2)) (21, sRing (su (su (su S (30 + 5 * (2 * s + d) + 0) 0) (30 + 5 * (2 * s + d) + 2) NN) (8 + 2 * s + (1 - d)) v) (2 * s + d) (s + (1 - d)) 21) := by
          intro v
          obtain ⟨G', e, m1, m2⟩ := m_ring (k2.up (8 + 2 * s + (1 - d)) v) (s := s) (d := d) (x := s + (1 - d)) (c := 21) (y := 21) rfl hd (by rw [su_ne (by omega), su_ne (by omega), su_ne (by omega)]; exact hr)
          rw [nI_NN, show nI 0 = 0 from rfl] at e
          rw [e]
          refine ⟨G', rfl, m1, ?_⟩
          exact (FrM.rf.up.up.up).tr m2
        cases cs : sSg S s with
        | false =>
          have := key (S (8 + 2 * s + (1 - d)))
          simp only [Bool.false_eq_true, if_false, if_pos, Int32.add_zero, Nat.add_zero]
          exact this
        | true =>
          have := key (S (8 + 2 * s + (1 - d)) + 1)
          simp only [if_true, if_neg bs_01, nI_1]
          exact this
  · rw [if_neg c, if_neg (fun q => c q.1)]
    exact ⟨G, rfl, h, FrM.rf⟩
theorem m_assist (h : MA G S) (I : Inv M S) (hr : S 80 < 2147483648) {s d : Nat} (hs : s + 1 < S 1) (hd : d < 2) : MS G (fX7_assist (nI s) (nI d) G) (sAssist S (2 * s + d)) := by
  have bx := I.bx
  have hs5 : s < 5 := by omega
  have hj10 : 2 * s + d < 10 := by omega
  have hj : (2 * s + d) / 2 = s := by omega
  have bk := I.bk hj10
  have o4 : nI (sB S (2 * s + d) 4) ≤ 0 ↔ sB S (2 * s + d) 4 = 0 := by
    rw [show (0 : Int32) = nI 0 from rfl, bs_le (by omega) (by decide)]; omega
  have e3 : (3 : Int32) + nI s = nI (3 + s) := nI_add 3 s
  have e4 : (2 : Int32) * nI (S (3 + s)) = nI (2 * S (3 + s)) := bs_mul 2 _
  unfold fX7_assist sAssist
  simp only [m_blk h I hs hd, m_b3 h hs5 hd, m_b4 h hs5 hd, gm_bs, if_neg bs_01, m_ins h I hs5 hd, bs_l (I.lb _ _) (show 0 < 4294967296 by decide), o4, m_p4, e3, gm_gin (show 3 + s < 2862 by omega) (show 2862 < 2147483648 by decide), gi_b hj10 (show 4 < 5 by decide), m_rear hd, h _ (show 3 + s < 2862 by omega), e4, hj]
  by_cases c : sB S (2 * s + d) 3 = 0
  · rw [if_pos c, if_neg (fun q => q.1 c)]
    exact ⟨G, rfl, h, FrM.rf⟩
  · rw [if_neg c]
    cases ci : sIn S (2 * s + d) with
    | true =>
      simp only [if_true, if_neg bs_01, Bool.true_eq_false, false_and, and_false, if_false]
      exact ⟨G, rfl, h, FrM.rf⟩
    | false =>
      simp only [Bool.false_eq_true, if_false, if_pos]
      by_cases c4 : sB S (2 * s + d) 4 = 0
      · rw [if_pos c4, if_pos ⟨c, trivial, c4⟩]
        have k1 := h.up (30 + 5 * (2 * s + d) + 4) (2 * S (3 + s))
        obtain ⟨G', e, m1, m2⟩ := m_ring k1 (s := s) (d := d) (x := sRr (2 * s + d)) (c := 22) (y := 22) rfl hd (by rw [su_ne (by omega)]; exact hr)
        have hm : S 80 % 60 < 60 := Nat.mod_lt _ (by decide)
        have eb := m_b4 m1 hs5 hd
        have ev : sB (sRing (su S (30 + 5 * (2 * s + d) + 4) (2 * S (3 + s))) (2 * s + d) (sRr (2 * s + d)) 22) (2 * s + d) 4 = 2 * S (3 + s) := by
          unfold sRing
          rw [su_ne (show (80 : Nat) ≠ 30 + 5 * (2 * s + d) + 4 by omega)]
          unfold sB
          rw [su_ne (by omega), su_ne (by omega), su_ne (by omega), su_ne (by omega), su_ne (by omega), su_ne (by omega), su_at]
        rw [ev] at eb
        rw [e, gm_bs, eb, gm_bs]
        exact ⟨G', rfl, m1, (FrM.rf.up).tr m2⟩
      · rw [if_neg c4, if_neg (fun q => c4 q.2.2)]
        exact ⟨G, rfl, h, FrM.rf⟩
theorem m_first (h : MA G S) (I : Inv M S) {d : Nat} {x : Int32} (hx : x = nI d) (hd : d < 2) : fX7_firstBox x G = some (nI (sFirst S d)) := by
  have bx := I.bx
  unfold fX7_firstBox sFirst
  rw [hx, h 1 (by decide), show (1 : Int32) = nI 1 from rfl, bs_sub (by omega)]
  simp only [bs_l (show d < 4294967296 by omega) (show 0 < 4294967296 by decide)]
  split <;> rfl
theorem m_leave (h : MA G S) (I : Inv M S) {t : Nat} (ht : t < S 381) : MS G (fX7_leave (nI t) G) (sLeave S t) := by
  have tn := I.tn
  have bx := I.bx
  have tr := I.tr ht
  have ht5 : t < 305 := by omega
  have e1 : (1 : Int32) - nI (sT S t 1) = nI (1 - sT S t 1) := by rw [show (1 : Int32) = nI 1 from rfl, bs_sub (by omega)]
  have ef : fX7_firstBox (1 - nI (sT S t 1)) G = some (nI (sLast S (sT S t 1))) := by
    rw [m_first h I e1 (by omega)]
    unfold sFirst sLast
    have : (1 - sT S t 1 = 0) ↔ (sT S t 1 = 1) := by omega
    simp only [this]
  have hl : sLast S (sT S t 1) < 4294967296 := by unfold sLast; split <;> omega
  have k3 := ((h.up (382 + 8 * t + 2) 3).up (382 + 8 * t + 3) NN).up (382 + 8 * t + 7) (S 0)
  have e6 := m_t6 k3 ht5
  have k2 := (h.up (382 + 8 * t + 2) 3).up (382 + 8 * t + 3) NN
  have e0 := k2 0 (by decide)
  have e0' := k3 0 (by decide)
  rw [show sT (su (su (su S (382 + 8 * t + 2) 3) (382 + 8 * t + 3) NN) (382 + 8 * t + 7) (S 0)) t 6 = sT S t 6 by unfold sT; rw [su_ne (by omega), su_ne (by omega), su_ne (by omega)], nI_NN, show nI 3 = 3 from rfl] at e6
  rw [su_ne (by omega), su_ne (by omega), nI_NN, show nI 3 = 3 from rfl] at e0
  rw [su_ne (by omega), su_ne (by omega), su_ne (by omega), nI_NN, show nI 3 = 3 from rfl] at e0'
  unfold fX7_leave sLeave
  simp only [m_trn h I ht, m_t2 h ht5, m_t3 h ht5, m_t1 h ht5, gm_bs, if_neg bs_01, bs_l (I.lq _ _) (show 0 < 4294967296 by decide), ef, bs_eq (I.lq _ _) hl, m_y2 ht5, m_y3 ht5, m_y7 ht5, e0, e6, e0']
  by_cases c : sT S t 2 = 0
  · by_cases c1 : sT S t 3 = sLast S (sT S t 1)
    · rw [if_pos c, if_pos c1, if_pos ⟨c, c1⟩, bs_sub tr.2.2.2.2.2.2.2.2]
      exact ⟨_, rfl, k3, FrM.rf.up.up.up⟩
    · rw [if_pos c, if_neg c1, if_neg (fun q => c1 q.2)]
      exact ⟨G, rfl, h, FrM.rf⟩
  · rw [if_neg c, if_neg (fun q => c q.1)]
    exact ⟨G, rfl, h, FrM.rf⟩
theorem m_divide (h : MA G S) (I : Inv M S) {t : Nat} (ht : t < S 381) : MS G (fX7_divide (nI t) G) (sDivide S t) := by
  have tn := I.tn
  have bx := I.bx
  have tr := I.tr ht
  have ht5 : t < 305 := by omega
  have k1 := h.up (382 + 8 * t + 5) 0
  have e3 := m_t3 k1 ht5
  have e1 := m_t1 k1 ht5
  rw [show sT (su S (382 + 8 * t + 5) 0) t 3 = sT S t 3 from su_ne (by omega)] at e3
  rw [show sT (su S (382 + 8 * t + 5) 0) t 1 = sT S t 1 from su_ne (by omega)] at e1
  rw [show nI 0 = 0 from rfl] at e3 e1
  unfold fX7_divide sDivide
  simp only [m_trn h I ht, m_t2 h ht5, m_t5 h ht5, gm_bs, if_neg bs_01, bs_l (I.lq _ _) (show 2 < 4294967296 by decide), bs_l (I.lq _ _) (show 0 < 4294967296 by decide), m_y5 ht5, e3, e1, m_p3]
  by_cases c : sT S t 2 = 2
  · by_cases c5 : sT S t 5 = 0
    · rw [if_pos c, if_pos c5, if_neg (fun q => q.2 c5)]
      exact ⟨G, rfl, h, FrM.rf⟩
    · have hb : 2 * sT S t 3 + sT S t 1 < 10 := by
        have := tr.2.2.2.2.2.1 c
        omega
      have k2 := k1.up (30 + 5 * (2 * sT S t 3 + sT S t 1) + 3) 1
      have e3' := m_t3 k2 ht5
      rw [show sT (su (su S (382 + 8 * t + 5) 0) (30 + 5 * (2 * sT S t 3 + sT S t 1) + 3) 1) t 3 = sT S t 3 from (su_ne (by omega)).trans (su_ne (by omega))] at e3'
      rw [if_pos c, if_neg c5, if_pos ⟨c, c5⟩, gi_b hb (by decide)]
      rw [show nI 0 = 0 from rfl, show nI 1 = 1 from rfl] at e3'
      rw [e3', gm_bs]
      exact ⟨_, rfl, k2, FrM.rf.up.up⟩
  · rw [if_neg c, if_neg (fun q => c q.1)]
    exact ⟨G, rfl, h, FrM.rf⟩
theorem m_clr (h : MA G S) (I : Inv M S) {t : Nat} (ht : t < S 381) (h1 : sT S t 2 ≤ 1) : fX7_isClearFor (nI t) G = some (match sNx S (sT S t 3) (sT S t 1) with | none => 0 | some j => if sB S j 0 = 1 ∧ sB S j 2 = t then 1 else 0) := by
  have tn := I.tn
  have bx := I.bx
  have tr := I.tr ht
  have ht5 : t < 305 := by omega
  unfold fX7_isClearFor
  simp only [m_nx h I ht h1, gm_bs, m_t1 h ht5]
  cases e : sNx S (sT S t 3) (sT S t 1) with
  | none => rfl
  | some j =>
    obtain ⟨j1, j2, j3, j4, j5⟩ := m_nxj (by omega) e
    have hd : sT S t 1 < 2 := by omega
    have hj : 2 * (j / 2) + sT S t 1 = j := by omega
    have hn : ¬ nI (j / 2) < 0 := by rw [bs_neg (by omega)]; omega
    simp only [if_neg hn, m_b0 h (show j / 2 < 5 by omega) hd, m_b2 h (show j / 2 < 5 by omega) hd, gm_bs, hj, bs_l (I.lb _ _) (show 1 < 4294967296 by decide), bs_eq (I.lb _ _) (show t < 4294967296 by omega)]
    by_cases c1 : sB S j 0 = 1 <;> by_cases c2 : sB S j 2 = t <;> simp [c1, c2]
theorem m_depart (h : MA G S) (I : Inv M S) (hr : S 80 < 2147483648) {t : Nat} (ht : t < S 381) : MS G (fX7_depart (nI t) G) (sDepart S t) := by
  have tn := I.tn
  have bx := I.bx
  have tr := I.tr ht
  have ht5 : t < 305 := by omega
  unfold fX7_depart sDepart
  simp only [m_trn h I ht, m_t2 h ht5, gm_bs, if_neg bs_01, bs_l (I.lq _ _) (show 0 < 4294967296 by decide)]
  by_cases c : sT S t 2 = 0
  · simp only [if_pos c, m_clr h I ht (by omega), m_nx h I ht (by omega), gm_bs, m_t1 h ht5]
    cases e : sNx S (sT S t 3) (sT S t 1) with
    | none => exact ⟨G, rfl, h, FrM.rf⟩
    | some j =>
      obtain ⟨j1, j2, j3, j4, j5⟩ := m_nxj (by omega) e
      have hd : sT S t 1 < 2 := by omega
      have hj : 2 * (j / 2) + sT S t 1 = j := by omega
      simp only
      by_cases c1 : sB S j 0 = 1 ∧ sB S j 2 = t
      · have sc := I.sc (show j / 2 < 5 by omega)
        have k2 := (h.up (382 + 8 * t + 2) 2).up (382 + 8 * t + 3) (j / 2)
        have ek := k2 (3 + j / 2) (by omega)
        rw [su_ne (by omega), su_ne (by omega), show nI 2 = 2 from rfl] at ek
        have e0 := m_t0 k2 ht5
        rw [show sT (su (su S (382 + 8 * t + 2) 2) (382 + 8 * t + 3) (j / 2)) t 0 = sT S t 0 by unfold sT; rw [su_ne (by omega), su_ne (by omega)], show nI 2 = 2 from rfl] at e0
        have e3 : (3 : Int32) + nI (j / 2) = nI (3 + j / 2) := nI_add 3 _
        have ev : nI (S (3 + j / 2)) + nI (sT S t 0) - 1 = nI (S (3 + j / 2) + sT S t 0 - 1) := by
          rw [nI_add, show (1 : Int32) = nI 1 from rfl, bs_sub (by omega)]
        rw [if_pos c1, if_pos c1, if_neg bs_01]
        simp only [m_y2 ht5, m_y3 ht5, gm_bs, e3, gm_gin (show 3 + j / 2 < 2862 by omega) (show 2862 < 2147483648 by decide), e0, ek, ev, m_y4 ht5, m_p0, hj, gi_b (show j < 10 by omega) (show 0 < 5 by decide), m_rear hd]
        have k4 := (k2.up (382 + 8 * t + 4) (S (3 + j / 2) + sT S t 0 - 1)).up (30 + 5 * j + 0) 2
        obtain ⟨G', e', m1, m2⟩ := m_ring k4 (s := j / 2) (d := sT S t 1) (x := sRr j) (c := 2) (y := 2) rfl hd (by rw [su_ne (by omega), su_ne (by omega), su_ne (by omega), su_ne (by omega)]; exact hr)
        rw [hj] at m1
        have e4 := m_t4 m1 ht5
        have hm : S 80 % 60 < 60 := Nat.mod_lt _ (by decide)
        have e80 : su (su (su (su S (382 + 8 * t + 2) 2) (382 + 8 * t + 3) (j / 2)) (382 + 8 * t + 4) (S (3 + j / 2) + sT S t 0 - 1)) (30 + 5 * j + 0) 2 80 = S 80 := by rw [su_ne (by omega), su_ne (by omega), su_ne (by omega), su_ne (by omega)]
        have e4' : sT (sRing (su (su (su (su S (382 + 8 * t + 2) 2) (382 + 8 * t + 3) (j / 2)) (382 + 8 * t + 4) (S (3 + j / 2) + sT S t 0 - 1)) (30 + 5 * j + 0) 2) j (sRr j) 2) t 4 = S (3 + j / 2) + sT S t 0 - 1 := by
          unfold sRing sT
          rw [e80, su_ne (by omega), su_ne (by omega), su_ne (by omega), su_ne (by omega), su_ne (by omega), su_ne (by omega), su_ne (by omega), su_at]
        rw [show nI 2 = 2 from rfl] at e'
        rw [e', gm_bs, e4, e4', gm_bs]
        exact ⟨G', rfl, m1, (FrM.rf.up.up.up.up).tr m2⟩
      · rw [if_neg c1, if_neg c1, if_pos rfl]
        exact ⟨G, rfl, h, FrM.rf⟩
  · simp only [if_neg c]
    exact ⟨G, rfl, h, FrM.rf⟩
end
