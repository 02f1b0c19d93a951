section
variable {G : Gm} {S : Sm} {M : Nat}
/-- one block of the reference's working -/
def StB (M : Nat) (a : Int32) (op : Sm → Nat → Nat × Sm) : Prop := ∀ (k : Int32 → Gm → Option Gm) (f s d : Nat) (G : Gm) (S : Sm), Inv M S → S 80 < 2147483647 → s + 1 < S 1 → d < 2 → MA G S → ∃ G1, fX7_workBlocks_h12 a k (f + 1) (nI s) (nI d) G = fX7_workBlocks_h12 a k f (nI s) (nI (d + 1)) G1 ∧ MA G1 (op S (2 * s + d)).2 ∧ FrM G G1
theorem m_blocks {a : Int32} {op : Sm → Nat → Nat × Sm} (st : StB M a op) (h : MA G S) (I : Inv M S) (hr : S 80 + 10 < 2147483647) (ho : ∀ S' j, Inv M S' → S' 80 < 2147483647 → j + 2 < 2 * S' 1 → Inv M (op S' j).2 ∧ Kp S' (op S' j).2) : ∃ G', fX7_workBlocks a G = some G' ∧ MA G' (sIt op S (2 * (S 1 - 1))) ∧ FrM G G' := by
  have bx := I.bx
  have p := ph_blk I hr ho
  have es : nI (S 1) - 1 = nI (S 1 - 1) := bs_sub (b := 1) (by omega)
  unfold fX7_workBlocks
  obtain ⟨G1, e1, m1, f1⟩ := lp (σ := Gm) (h := fun f v G => fX7_workBlocks_h2 a f v G) (P := fun i G' => MA G' (sIt op S (2 * i)) ∧ FrM G G') (m := S 1 - 1) (fun i f G' hi hP => by
    have o := p (2 * i) (by omega)
    have o' := p (2 * i + 1) (by omega)
    obtain ⟨G1, g1, g2, g3⟩ := st (fun v2 G => fX7_workBlocks_h2 a f v2 G) 5999 i 0 G' _ o.1 (by have := o.2.2.2.2; omega) (by rw [o.2.2.1]; omega) (by decide) hP.1
    obtain ⟨G2, k1, k2, k3⟩ := st (fun v2 G => fX7_workBlocks_h2 a f v2 G) 5998 i 1 G1 (sIt op S (2 * i + 1)) o'.1 (by have := o'.2.2.2.2; omega) (by rw [o'.2.2.1]; omega) (by decide) g2
    have e := hP.1 1 (by decide)
    rw [o.2.2.1] at e
    refine ⟨G2, ?_, k2, (hP.2.tr g3).tr k3⟩
    try dsimp only
    rw [fX7_workBlocks_h2.eq_2]
    unfold fX7_sections
    rw [gm_bs, e, es, if_neg (by rw [bs_le (by omega) (by omega)]; omega)]
    refine Eq.trans g1 (Eq.trans k1 ?_)
    rw [fX7_workBlocks_h12.eq_2, if_pos (by decide), nI_1]) (S 1 - 1) 0 6000 G (by omega) (by omega) ⟨h, FrM.rf⟩
  have o := p (2 * (S 1 - 1)) (Nat.le_refl _)
  have e := m1 1 (by decide)
  rw [o.2.2.1] at e
  obtain ⟨g, hg⟩ : ∃ g, 6000 - (S 1 - 1) = g + 1 := ⟨5999 - (S 1 - 1), by omega⟩
  refine ⟨G1, ?_, m1, f1⟩
  refine Eq.trans e1 ?_
  try dsimp only
  rw [hg, fX7_workBlocks_h2.eq_2]
  unfold fX7_sections
  rw [gm_bs, e, es, if_pos ((bs_le (by omega) (by omega)).mpr (Nat.le_refl _))]
theorem d_lt {d : Nat} (h : d < 2) : ¬ (2 : Int32) ≤ nI d := by rw [show (2 : Int32) = nI 2 from rfl, bs_le (by decide) (by omega)]; omega
theorem st_out : StB M 0 sOut := by
  intro k f s d G S I hr hs hd h
  obtain ⟨G1, e1, m1, f1⟩ := m_out h I (by omega) hs hd
  refine ⟨G1, ?_, m1, f1⟩
  rw [fX7_workBlocks_h12.eq_2, if_neg (d_lt hd), if_pos rfl, e1, gm_bs, nI_1]
theorem st_assist : StB M 1 sAssist := by
  intro k f s d G S I hr hs hd h
  obtain ⟨G1, e1, m1, f1⟩ := m_assist h I (by omega) hs hd
  refine ⟨G1, ?_, m1, f1⟩
  rw [fX7_workBlocks_h12.eq_2, if_neg (d_lt hd), if_neg (by decide), if_pos rfl, e1, gm_bs, nI_1]
theorem st_admit : StB M 2 sAdmit := by
  intro k f s d G S I hr hs hd h
  obtain ⟨G1, e1, m1, f1⟩ := m_admit h I hs hd
  refine ⟨G1, ?_, m1, f1⟩
  rw [fX7_workBlocks_h12.eq_2, if_neg (d_lt hd), if_neg (by decide), if_neg (by decide), if_pos rfl, e1, gm_bs, nI_1]
theorem st_ans : StB M 3 sAns := by
  intro k f s d G S I hr hs hd h
  obtain ⟨G1, e1, m1, f1⟩ := m_accept h I (by omega) hs hd (y := 1) (by decide)
  by_cases c : (sAccept S (2 * s + d)).1 = NP
  · rw [ac_same c] at m1
    obtain ⟨G2, e2, m2, f2⟩ := m_refuse m1 I (by omega) hs hd
    refine ⟨G2, ?_, by rw [an_p c]; exact m2, f1.tr f2⟩
    rw [fX7_workBlocks_h12.eq_2, if_neg (d_lt hd), if_neg (by decide), if_neg (by decide), if_neg (by decide), e1, gm_bs]
    try dsimp only
    rw [if_neg (fun q => ac_neg.mp q c), e2, gm_bs, nI_1]
  · refine ⟨G1, ?_, by rw [an_n c]; exact m1, f1⟩
    rw [fX7_workBlocks_h12.eq_2, if_neg (d_lt hd), if_neg (by decide), if_neg (by decide), if_neg (by decide), e1, gm_bs]
    try dsimp only
    rw [if_pos (ac_neg.mpr c), nI_1]
/-- one train of the reference's working -/
def StT (M : Nat) (a : Int32) (op : Sm → Nat → Nat × Sm) : Prop := ∀ (f t : Nat) (G : Gm) (S : Sm), Inv M S → S 80 < 2147483647 → t < S 381 → MA G S → ∃ G1, fX7_workTrains_h2 a (f + 1) (nI t) G = fX7_workTrains_h2 a f (nI (t + 1)) G1 ∧ MA G1 (op S t).2 ∧ FrM G G1
theorem m_trains {a : Int32} {op : Sm → Nat → Nat × Sm} (st : StT M a op) (h : MA G S) (I : Inv M S) (hr : S 80 + 305 < 2147483647) (ho : ∀ S' t, Inv M S' → S' 80 < 2147483647 → t < S' 381 → Inv M (op S' t).2 ∧ Kp S' (op S' t).2) : ∃ G', fX7_workTrains a G = some G' ∧ MA G' (sIt op S (S 381)) ∧ FrM G G' := by
  have tn := I.tn
  have p := ph_trn I hr ho
  unfold fX7_workTrains
  obtain ⟨G1, e1, m1, f1⟩ := lp (σ := Gm) (h := fun f v G => fX7_workTrains_h2 a f v G) (P := fun i G' => MA G' (sIt op S i) ∧ FrM G G') (m := S 381) (fun i f G' hi hP => by
    have o := p i (by omega)
    obtain ⟨G1, g1, g2, g3⟩ := st f i G' _ o.1 (by have := o.2.2.2.2; omega) (by rw [o.2.2.2.1]; omega) hP.1
    exact ⟨G1, g1, g2, hP.2.tr g3⟩) (S 381) 0 6000 G (by omega) (by omega) ⟨h, FrM.rf⟩
  have o := p (S 381) (Nat.le_refl _)
  have e := m1 381 (by decide)
  rw [o.2.2.2.1] at e
  obtain ⟨g, hg⟩ : ∃ g, 6000 - (S 381) = g + 1 := ⟨5999 - S 381, by omega⟩
  refine ⟨G1, ?_, m1, f1⟩
  refine Eq.trans e1 ?_
  try dsimp only
  rw [hg, fX7_workTrains_h2.eq_2, e, if_pos ((bs_le (by omega) (by omega)).mpr (Nat.le_refl _))]
theorem t_lt (h : MA G S) (I : Inv M S) {t : Nat} (ht : t < S 381) : ¬ G 8 5 0 381 ≤ nI t := by
  have := I.tn
  rw [h 381 (by decide), bs_le (by omega) (by omega)]; omega
theorem st_leave : StT M 0 sLeave := by
  intro f t G S I hr ht h
  obtain ⟨G1, e1, m1, f1⟩ := m_leave h I ht
  refine ⟨G1, ?_, m1, f1⟩
  rw [fX7_workTrains_h2.eq_2, if_neg (t_lt h I ht), if_pos rfl, e1, gm_bs, nI_1]
theorem st_offer : StT M 1 sOffer := by
  intro f t G S I hr ht h
  obtain ⟨G1, e1, m1, f1⟩ := m_offer h I (by omega) ht
  refine ⟨G1, ?_, m1, f1⟩
  rw [fX7_workTrains_h2.eq_2, if_neg (t_lt h I ht), if_neg (by decide), if_pos rfl, e1, gm_bs, nI_1]
theorem st_depart : StT M 2 sDepart := by
  intro f t G S I hr ht h
  obtain ⟨G1, e1, m1, f1⟩ := m_depart h I (by omega) ht
  refine ⟨G1, ?_, m1, f1⟩
  rw [fX7_workTrains_h2.eq_2, if_neg (t_lt h I ht), if_neg (by decide), if_neg (by decide), e1, gm_bs, nI_1]
theorem m_wtick (h : MA G S) (I : Inv M S) (hr : S 80 + 1000 < 2147483647) (h0 : S 0 < 2147483647) : ∃ G', fX7_workTick G = some G' ∧ MA G' (sWk S) ∧ FrM G G' := by
  have o1 := ok_1 I hr
  have o2 := ok_2 I hr
  have o3 := ok_3 I hr
  have o4 := ok_4 I hr
  have o5 := ok_5 I hr
  have o6 := ok_6 I hr
  have o7 := ok_7 I hr
  have r1 := o1.2.2.2.2
  have r2 := o2.2.2.2.2
  have r3 := o3.2.2.2.2
  have r4 := o4.2.2.2.2
  have r5 := o5.2.2.2.2
  have r6 := o6.2.2.2.2
  have r7 := o7.2.2.2.2
  obtain ⟨G1, e1, m1, f1⟩ := m_blocks st_out h I (by omega) ho_out
  obtain ⟨G2, e2, m2, f2⟩ := m_blocks st_assist m1 o1.1 (by show sQ1 S 80 + 10 < _; omega) ho_assist
  rw [show sIt sOut S (2 * (S 1 - 1)) 1 = S 1 from o1.2.2.1] at m2
  obtain ⟨G3, e3, m3, f3⟩ := m_blocks st_admit m2 o2.1 (by show sQ2 S 80 + 10 < _; omega) ho_admit
  rw [show sIt sAssist (sIt sOut S (2 * (S 1 - 1))) (2 * (S 1 - 1)) 1 = S 1 from o2.2.2.1] at m3
  have m3 : MA G3 (sQ3 S) := m3
  obtain ⟨G4, e4, m4, f4⟩ := m_trains st_leave m3 o3.1 (by omega) ho_leave
  rw [o3.2.2.2.1] at m4
  have m4 : MA G4 (sQ4 S) := m4
  obtain ⟨G5, e5, m5, f5⟩ := m_trains st_offer m4 o4.1 (by omega) ho_offer
  rw [o4.2.2.2.1] at m5
  have m5 : MA G5 (sQ5 S) := m5
  obtain ⟨G6, e6, m6, f6⟩ := m_blocks st_ans m5 o5.1 (by omega) ho_ans
  rw [o5.2.2.1] at m6
  have m6 : MA G6 (sQ6 S) := m6
  obtain ⟨G7, e7, m7, f7⟩ := m_trains st_depart m6 o6.1 (by omega) ho_depart
  rw [o6.2.2.2.1] at m7
  have m7 : MA G7 (sQ7 S) := m7
  obtain ⟨G8, e8, m8, f8⟩ := m_tick m7 o7.1 (by rw [o7.2.1]; exact h0)
  refine ⟨G8, ?_, m8, ((((((f1.tr f2).tr f3).tr f4).tr f5).tr f6).tr f7).tr f8⟩
  unfold fX7_workTick
  rw [e1, gm_bs, e2, gm_bs, e3, gm_bs, e4, gm_bs, e5, gm_bs, e6, gm_bs, e7, gm_bs, e8, gm_bs]
/-- n ticks of working, and how many trains leave in them -/
def sWn (S : Sm) : Nat → Sm
  | 0 => S
  | n + 1 => sWk (sWn S n)
def sWc (S : Sm) : Nat → Nat
  | 0 => 0
  | n + 1 => sWc S n + sWl (sWn S n)
theorem ok_wn (I : Inv M S) (n : Nat) : S 80 + n * 1000 < 2147483647 → S 0 + n < 2147483647 → Inv M (sWn S n) ∧ sWn S n 0 = S 0 + n ∧ sWn S n 1 = S 1 ∧ sWn S n 381 = S 381 ∧ sWn S n 80 ≤ S 80 + n * 1000 := by
  induction n with
  | zero => exact fun _ _ => ⟨I, rfl, rfl, rfl, Nat.le_add_right _ _⟩
  | succ n ih =>
    intro hr h0
    rw [Nat.succ_mul] at hr ⊢
    have q0 : S 80 + n * 1000 < 2147483647 := by clear ih; revert hr; generalize n * 1000 = k; intro hr; omega
    have q1 : S 80 + n * 1000 + 1000 < 2147483647 := by rw [Nat.add_assoc]; exact hr
    have q2 : S 0 + n < 2147483647 := by clear ih; revert hr; generalize n * 1000 = k; intro hr; omega
    have q3 : S 80 + n * 1000 + 1000 ≤ S 80 + (n * 1000 + 1000) := by clear ih; revert hr; generalize n * 1000 = k; intro hr; omega
    obtain ⟨a1, a2, a3, a4, a5⟩ := ih q0 q2
    obtain ⟨b1, b2, b3, b4, b5⟩ := ok_wk a1 (Nat.lt_of_le_of_lt (Nat.add_le_add_right a5 1000) q1) (by rw [a2]; exact q2)
    exact ⟨b1, b2.trans (congrArg (· + 1) a2), b3.trans a3, b4.trans a4, Nat.le_trans b5 (Nat.le_trans (Nat.add_le_add_right a5 1000) q3)⟩
theorem ok_wb {n : Nat} (I : Inv M S) (hn : n ≤ 500) (hr : S 80 + 600000 < 2147483647) (h0 : S 0 + 600 < 2147483647) : Inv M (sWn S n) ∧ sWn S n 0 = S 0 + n ∧ sWn S n 1 = S 1 ∧ sWn S n 381 = S 381 ∧ sWn S n 80 ≤ S 80 + 500000 := by
  have h := Nat.mul_le_mul_right 1000 hn
  have q1 : S 80 + n * 1000 ≤ S 80 + 500000 := Nat.add_le_add_left h _
  have q2 : S 80 + 500000 < 2147483647 := by clear q1 h; omega
  obtain ⟨a1, a2, a3, a4, a5⟩ := ok_wn I n (Nat.lt_of_le_of_lt q1 q2) (by clear q1 h; omega)
  exact ⟨a1, a2, a3, a4, Nat.le_trans a5 q1⟩
/-- how many of the first n trains are at p -/
def gC (S : Sm) (p : Nat) : Nat → Nat
  | 0 => 0
  | n + 1 => gC S p n + (if sT S n 2 = p then 1 else 0)
theorem gC_le (p : Nat) : ∀ n, gC S p n ≤ n
  | 0 => Nat.le_refl _
  | n + 1 => by
    have := gC_le p n
    unfold gC
    split <;> omega
theorem gC_of {S' : Sm} (p : Nat) : ∀ n, (∀ t, t < n → (sT S' t 2 = p ↔ sT S t 2 = p)) → gC S' p n = gC S p n
  | 0, _ => rfl
  | n + 1, h => by
    unfold gC
    rw [gC_of p n (fun t ht => h t (by omega))]
    by_cases c : sT S n 2 = p
    · rw [if_pos c, if_pos ((h n (by omega)).mpr c)]
    · rw [if_neg c, if_neg (fun q => c ((h n (by omega)).mp q))]
end
