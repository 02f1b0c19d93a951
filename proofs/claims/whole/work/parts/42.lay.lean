/-- the line as it is laid: boxes, singles -/
def sLay (b z : Nat) : Sm := fun k => if k = 1 then b else if k = 2 then z else if k < 3 then 0 else if k < 18 then 5 else if k < 30 then 1 else if k < 80 then (if (k - 30) % 5 = 1 ∨ (k - 30) % 5 = 2 then NN else 0) else 0
/-- the blocks of a row, laid -/
def sClr (S : Sm) : Sm := fun k => if 30 ≤ k ∧ k < 80 then (if (k - 30) % 5 = 1 ∨ (k - 30) % 5 = 2 then NN else 0) else S k
section
variable {G : Gm} {S : Sm} {M l : Nat}
theorem MA.cg {S' : Sm} (h : MA G S) (e : ∀ k, k < 2862 → S' k = S k) : MA G S' := fun k hk => by rw [e k hk]; exact h k hk
theorem m_lyb (h : MA G S) : ∃ G', fX7_layBlocks G = some G' ∧ MA G' (sClr S) ∧ FrM G G' := by
  unfold fX7_layBlocks
  obtain ⟨G1, e1, m1, f1⟩ := lp (σ := Gm) (h := fun f v s => fX7_layBlocks_h2 f v s) (P := fun i s => MA s (fun k => if 30 ≤ k ∧ k < 30 + 5 * i then (if (k - 30) % 5 = 1 ∨ (k - 30) % 5 = 2 then NN else 0) else S k) ∧ FrM G s) (m := 10) (fun i f G' hi hP => by
    have e : ∀ w : Nat, ((30 : Int32) + 5 * nI i) + (OfNat.ofNat w : Int32) = nI (30 + 5 * i + w) := fun w => by simp only [bs_nat, bs_mul, nI_add]
    refine ⟨_, ?_, MA.cg (((((hP.1.up (30 + 5 * i + 0) 0).up (30 + 5 * i + 1) NN).up (30 + 5 * i + 2) NN).up (30 + 5 * i + 3) 0).up (30 + 5 * i + 4) 0) (fun k hk => ?_), hP.2.up.up.up.up.up⟩
    · try dsimp only
      rw [fX7_layBlocks_h2.eq_2, if_neg (by rw [show (10 : Int32) = nI 10 from rfl, bs_le (by decide) (by omega)]; omega), e 0, e 1, e 2, e 3, e 4, gi_b hi (by decide), gi_b hi (by decide), gi_b hi (by decide), gi_b hi (by decide), gi_b hi (by decide), nI_1, nI_NN]
      rfl
    · try dsimp only
      unfold su
      try dsimp only
      by_cases c4 : k = 30 + 5 * i + 4
      · rw [if_pos (by omega), if_neg (by omega), if_pos c4]
      by_cases c3 : k = 30 + 5 * i + 3
      · rw [if_pos (by omega), if_neg (by omega), if_neg c4, if_pos c3]
      by_cases c2 : k = 30 + 5 * i + 2
      · rw [if_pos (by omega), if_pos (by omega), if_neg c4, if_neg c3, if_pos c2]
      by_cases c1 : k = 30 + 5 * i + 1
      · rw [if_pos (by omega), if_pos (by omega), if_neg c4, if_neg c3, if_neg c2, if_pos c1]
      by_cases c0 : k = 30 + 5 * i + 0
      · rw [if_pos (by omega), if_neg (by omega), if_neg c4, if_neg c3, if_neg c2, if_neg c1, if_pos c0]
      · rw [if_neg c4, if_neg c3, if_neg c2, if_neg c1, if_neg c0]
        by_cases q : 30 ≤ k ∧ k < 30 + 5 * i
        · rw [if_pos q, if_pos (by omega)]
        · rw [if_neg q, if_neg (by omega)]) 10 0 6000 G (by omega) (by omega) ⟨h.cg (fun k hk => by rw [if_neg (by omega)]), FrM.rf⟩
  refine ⟨G1, ?_, m1, f1⟩
  refine Eq.trans e1 ?_
  try dsimp only
  rw [show (6000 - 10 : Nat) = 5989 + 1 from rfl, fX7_layBlocks_h2.eq_2, if_pos (by decide)]
theorem m_lay (b z : Nat) : ∃ G', fX7_lay (nI b) (nI z) G = some G' ∧ MA G' (sLay b z) ∧ FrM G G' := by
  unfold fX7_lay
  obtain ⟨G1, e1, m1, f1⟩ := lp (σ := Gm) (h := fun f v s => fX7_lay_h2 (nI b) (nI z) f v s) (P := fun i s => (∀ k, k < i → s 8 5 0 k = nI 0) ∧ FrM G s) (m := 2862) (fun i f G' hi hP => by
    refine ⟨gm_up G' 8 5 0 i 0, ?_, fun k hk => ?_, hP.2.up⟩
    · try dsimp only
      rw [fX7_lay_h2.eq_2, if_neg (by rw [show (2862 : Int32) = nI 2862 from rfl, bs_le (by decide) (by omega)]; omega), gm_gin hi (by decide), nI_1]
    · by_cases q : k = i
      · rw [q, gu_at]; rfl
      · rw [gu_s q]; exact hP.1 k (by omega)) 2862 0 6000 G (by omega) (by omega) ⟨fun k hk => by omega, FrM.rf⟩
  have M1 : MA (gm_up (gm_up G1 8 5 0 1 (nI b)) 8 5 0 2 (nI z)) (fun k => if k = 1 then b else if k = 2 then z else 0) := by
    refine MA.cg ((MA.up (S := fun _ => 0) (fun k hk => m1 k hk) 1 b).up 2 z) (fun k hk => ?_)
    unfold su
    by_cases q : k = 1
    · rw [if_pos q, if_neg (by omega), if_pos q]
    · rw [if_neg q]
      by_cases q2 : k = 2
      · rw [if_pos q2, if_pos q2]
      · rw [if_neg q2, if_neg q2, if_neg q]
  obtain ⟨G2, e2, m2, f2⟩ := lp (σ := Gm) (h := fun f v s => fX7_lay_h38 (nI b) (nI z) f v s) (P := fun i s => MA s (fun k => if 3 ≤ k ∧ k < 3 + i then 5 else if 8 ≤ k ∧ k < 8 + 2 * i then 5 else if k = 1 then b else if k = 2 then z else 0) ∧ FrM G s) (m := 5) (fun i f G' hi hP => by
    have x1 : (3 : Int32) + nI i = nI (3 + i) := by simp only [bs_nat, nI_add]
    have x2 : (8 : Int32) + 2 * nI i = nI (8 + 2 * i) := by simp only [bs_nat, bs_mul, nI_add]
    have x3 : nI (8 + 2 * i) + 1 = nI (8 + 2 * i + 1) := nI_1 _
    refine ⟨_, ?_, MA.cg (((hP.1.up (3 + i) 5).up (8 + 2 * i) 5).up (8 + 2 * i + 1) 5) (fun k hk => ?_), hP.2.up.up.up⟩
    · try dsimp only
      rw [fX7_lay_h38.eq_2, if_neg (by rw [show (5 : Int32) = nI 5 from rfl, bs_le (by decide) (by omega)]; omega), x1, x2, x3, gm_gin (by omega) (by decide), gm_gin (by omega) (by decide), gm_gin (by omega) (by decide), nI_1]
      rfl
    · unfold su
      try dsimp only
      by_cases c3 : k = 8 + 2 * i + 1
      · rw [if_neg (by omega), if_pos (by omega), if_pos c3]
      by_cases c2 : k = 8 + 2 * i
      · rw [if_neg (by omega), if_pos (by omega), if_neg c3, if_pos c2]
      by_cases c1 : k = 3 + i
      · rw [if_pos (by omega), if_neg c3, if_neg c2, if_pos c1]
      · rw [if_neg c3, if_neg c2, if_neg c1]
        by_cases q : 3 ≤ k ∧ k < 3 + i
        · rw [if_pos q, if_pos (by omega)]
        · rw [if_neg q, if_neg (by omega)]
          by_cases q2 : 8 ≤ k ∧ k < 8 + 2 * i
          · rw [if_pos q2, if_pos (by omega)]
          · rw [if_neg q2, if_neg (by omega)]) 5 0 6000 _ (by omega) (by omega) ⟨M1.cg (fun k hk => by rw [if_neg (by omega), if_neg (by omega)]), f1.up.up⟩
  obtain ⟨G3, e3, m3, f3⟩ := lp (σ := Gm) (h := fun f v s => fX7_lay_h86 (nI b) (nI z) f v s) (P := fun i s => MA s (fun k => if 18 ≤ k ∧ k < 18 + i then 1 else if 3 ≤ k ∧ k < 18 then 5 else if k = 1 then b else if k = 2 then z else 0) ∧ FrM G s) (m := 12) (fun i f G' hi hP => by
    have x1 : (18 : Int32) + nI i = nI (18 + i) := by simp only [bs_nat, nI_add]
    refine ⟨_, ?_, MA.cg (hP.1.up (18 + i) 1) (fun k hk => ?_), hP.2.up⟩
    · try dsimp only
      rw [fX7_lay_h86.eq_2, if_neg (by rw [show (12 : Int32) = nI 12 from rfl, bs_le (by decide) (by omega)]; omega), x1, gm_gin (by omega) (by decide), nI_1]
      rfl
    · unfold su
      try dsimp only
      by_cases c1 : k = 18 + i
      · rw [if_pos (by omega), if_pos c1]
      · rw [if_neg c1]
        by_cases q : 18 ≤ k ∧ k < 18 + i
        · rw [if_pos q, if_pos (by omega)]
        · rw [if_neg q, if_neg (by omega)]) 12 0 6000 G2 (by omega) (by omega) ⟨m2.cg (fun k hk => by
          try dsimp only
          rw [if_neg (by omega)]
          by_cases q : 3 ≤ k ∧ k < 18
          · rw [if_pos q]
            by_cases q1 : 3 ≤ k ∧ k < 3 + 5
            · rw [if_pos q1]
            · rw [if_neg q1, if_pos (by omega)]
          · rw [if_neg q, if_neg (show ¬ (3 ≤ k ∧ k < 3 + 5) by omega), if_neg (show ¬ (8 ≤ k ∧ k < 8 + 2 * 5) by omega)]), f2⟩
  obtain ⟨G4, e4, m4, f4⟩ := m_lyb m3
  refine ⟨G4, ?_, m4.cg (fun k hk => ?_), f3.tr f4⟩
  · refine Eq.trans e1 ?_
    try dsimp only
    rw [show (6000 - 2862 : Nat) = 3137 + 1 from rfl, fX7_lay_h2.eq_2, if_pos (by decide)]
    refine Eq.trans e2 ?_
    try dsimp only
    rw [show (6000 - 5 : Nat) = 5994 + 1 from rfl, fX7_lay_h38.eq_2, if_pos (by decide)]
    refine Eq.trans e3 ?_
    try dsimp only
    rw [show (6000 - 12 : Nat) = 5987 + 1 from rfl, fX7_lay_h86.eq_2, if_pos (by decide), e4, gm_bs]
  · unfold sLay sClr
    try dsimp only
    by_cases q : 30 ≤ k ∧ k < 80
    · rw [if_pos q, if_neg (by omega), if_neg (by omega), if_neg (by omega), if_neg (by omega), if_neg (by omega), if_pos q.2]
    · rw [if_neg q]
      by_cases c1 : k = 1
      · rw [if_pos c1, if_neg (by omega), if_neg (by omega), if_pos c1]
      by_cases c2 : k = 2
      · rw [if_neg c1, if_pos c2, if_neg (by omega), if_neg (by omega), if_neg c1, if_pos c2]
      rw [if_neg c1, if_neg c2]
      by_cases c3 : k < 3
      · rw [if_pos c3, if_neg (by omega), if_neg (by omega), if_neg c1, if_neg c2]
      by_cases c4 : k < 18
      · rw [if_neg c3, if_pos c4, if_neg (by omega), if_pos (by omega)]
      by_cases c5 : k < 30
      · rw [if_neg c3, if_neg c4, if_pos c5, if_pos (by omega)]
      · rw [if_neg c3, if_neg c4, if_neg c5, if_neg (by omega), if_neg (by omega), if_neg (by omega), if_neg c1, if_neg c2]
/-- what a loop of the class's laying leaves alone -/
theorem c_clrT : ∃ G', fX1_clearTraffic l G = some G' ∧ FrC l G G' ∧ G' 1 l 0 6 = 0 ∧ (∀ s, s < 5 → G' 4 l s 5 = 0) ∧ (∀ j, j < 10 → G' 0 l j 2 = 0 ∧ G' 0 l j 3 = -6 ∧ G' 0 l j 4 = -6 ∧ G' 0 l j 5 = 0 ∧ G' 0 l j 6 = 0) ∧ (∀ a c k, a ≠ 0 → ¬ (a = 1 ∧ k = 6) → ¬ (a = 4 ∧ k = 5) → G' a l c k = G a l c k) := by
  unfold fX1_clearTraffic
  obtain ⟨G1, e1, ⟨f1, p1, q1⟩⟩ := lp (σ := Gm) (h := fun f v s => fX1_clearTraffic_h7 l f v s) (P := fun i s => FrC l G s ∧ (∀ k, k < i → s 4 l k 5 = 0) ∧ (∀ a c k, ¬ (a = 4 ∧ k = 5) → s a l c k = gm_up G 1 l 0 6 0 a l c k)) (m := 5) (fun i f G' hi hP => by
    refine ⟨gm_up G' 4 l i 5 0, ?_, hP.1.up, fun k hk => ?_, fun a c k q => ?_⟩
    · try dsimp only
      rw [fX1_clearTraffic_h7.eq_2, if_neg (by rw [show (5 : Int32) = nI 5 from rfl, bs_le (by decide) (by omega)]; omega), gm_gin hi (by decide), nI_1]
    · by_cases e : k = i
      · rw [e, gu_at]
      · rw [gu_c e]; exact hP.2.1 k (by omega)
    · by_cases e : a = 4
      · rw [gu_s (fun z => q ⟨e, z⟩)]; exact hP.2.2 a c k q
      · rw [gu_k e]; exact hP.2.2 a c k q) 5 0 6000 (gm_up G 1 l 0 6 0) (by omega) (by omega) ⟨FrC.rf.up, fun k hk => by omega, fun a c k q => rfl⟩
  obtain ⟨G2, e2, ⟨f2, p2, q2⟩⟩ := lp (σ := Gm) (h := fun f v s => fX1_clearTraffic_h30 l f v s) (P := fun i s => FrC l G s ∧ (∀ j, j < i → s 0 l j 2 = 0 ∧ s 0 l j 3 = -6 ∧ s 0 l j 4 = -6 ∧ s 0 l j 5 = 0 ∧ s 0 l j 6 = 0) ∧ (∀ a c k, a ≠ 0 → s a l c k = G1 a l c k)) (m := 10) (fun i f G' hi hP => by
    refine ⟨gm_up (gm_up (gm_up (gm_up (gm_up G' 0 l i 2 0) 0 l i 3 (-6)) 0 l i 4 (-6)) 0 l i 5 0) 0 l i 6 0, ?_, hP.1.up.up.up.up.up, fun k hk => ?_, fun a c k q => ?_⟩
    · try dsimp only
      rw [fX1_clearTraffic_h30.eq_2, if_neg (by rw [show (10 : Int32) = nI 10 from rfl, bs_le (by decide) (by omega)]; omega), gm_gin hi (by decide)]
      unfold fX0_reset
      rw [gm_bs, nI_1]
    · by_cases e : k = i
      · rw [e]; simp [gm_up]
      · rw [gu_c e, gu_c e, gu_c e, gu_c e, gu_c e, gu_c e, gu_c e, gu_c e, gu_c e, gu_c e, gu_c e, gu_c e, gu_c e, gu_c e, gu_c e, gu_c e, gu_c e, gu_c e, gu_c e, gu_c e, gu_c e, gu_c e, gu_c e, gu_c e, gu_c e]
        exact hP.2.1 k (by omega)
    · rw [gu_k q, gu_k q, gu_k q, gu_k q, gu_k q]; exact hP.2.2 a c k q) 10 0 6000 G1 (by omega) (by omega) ⟨f1, fun k hk => by omega, fun a c k q => rfl⟩
  refine ⟨G2, ?_, f2, ?_, fun s hs => ?_, p2, fun a c k h1 h2 h3 => ?_⟩
  · refine Eq.trans e1 ?_
    try dsimp only
    rw [show (6000 - 5 : Nat) = 5994 + 1 from rfl, fX1_clearTraffic_h7.eq_2, if_pos (by decide)]
    refine Eq.trans e2 ?_
    try dsimp only
    rw [show (6000 - 10 : Nat) = 5989 + 1 from rfl, fX1_clearTraffic_h30.eq_2, if_pos (by decide)]
  · rw [q2 1 0 6 (by decide), q1 1 0 6 (by decide), gu_at]
  · rw [q2 4 s 5 (by decide), p1 s hs]
  · rw [q2 a c k h1, q1 a c k h3]
    by_cases e : a = 1
    · rw [gu_s (fun z => h2 ⟨e, z⟩)]
    · rw [gu_k e]
/-- the class lays its line -/
theorem c_lay {b z : Nat} (hz : z < 32) (hy : ∀ t, t < 12 → G 5 l t 6 = 0 ∨ G 5 l t 6 = 1) : ∃ G', fX1_layOut l (nI b) (nI z) G = some G' ∧ CL G' l (sLay b z) ∧ FrC l G G' := by
  have hbit := fun s hs => m_bit z hz s hs
  have hsg : ∀ s, sSg (sLay b z) s = decide (z / 2 ^ s % 2 = 1) := fun s => rfl
  unfold fX1_layOut
  obtain ⟨G1, e1, ⟨f1, p1, q1⟩⟩ := lp (σ := Gm) (h := fun f v s => fX1_layOut_h7 l (nI b) (nI z) f v s) (P := fun i s => FrC l G s ∧ (∀ k, k < i → s 4 l k 1 = (if sSg (sLay b z) k then 1 else 0) ∧ s 4 l k 2 = 5 ∧ s 4 l k 3 = (if sSg (sLay b z) k then 5 else 0) ∧ s 4 l k 4 = (if sSg (sLay b z) k then 5 else 0)) ∧ (∀ a c k, a ≠ 4 → s a l c k = gm_up G 1 l 0 5 (nI b) a l c k)) (m := 5) (fun i f G' hi hP => by
    rw [fX1_layOut_h7.eq_2, if_neg (by rw [show (5 : Int32) = nI 5 from rfl, bs_le (by decide) (by omega)]; omega), gm_gin hi (by decide), nI_1]
    by_cases c : z / 2 ^ i % 2 = 1
    · rw [if_pos ((hbit i hi).mpr c)]
      unfold fX4_layOut
      rw [if_pos (by decide), if_neg (by decide), gm_bs]
      refine ⟨_, rfl, hP.1.up.up.up.up, fun k hk => ?_, fun a c k q => ?_⟩
      · by_cases e : k = i
        · rw [e, hsg i, decide_eq_true c]; simp [gm_up]
        · rw [gu_c e, gu_c e, gu_c e, gu_c e, gu_c e, gu_c e, gu_c e, gu_c e, gu_c e, gu_c e, gu_c e, gu_c e, gu_c e, gu_c e, gu_c e, gu_c e]
          exact hP.2.1 k (by omega)
      · rw [gu_k q, gu_k q, gu_k q, gu_k q]; exact hP.2.2 a c k q
    · rw [if_neg (fun q => c ((hbit i hi).mp q))]
      unfold fX4_layOut
      rw [if_pos (by decide), if_pos rfl, gm_bs]
      refine ⟨_, rfl, hP.1.up.up.up.up, fun k hk => ?_, fun a c k q => ?_⟩
      · by_cases e : k = i
        · rw [e, hsg i, decide_eq_false c]; simp [gm_up]
        · rw [gu_c e, gu_c e, gu_c e, gu_c e, gu_c e, gu_c e, gu_c e, gu_c e, gu_c e, gu_c e, gu_c e, gu_c e, gu_c e, gu_c e, gu_c e, gu_c e]
          exact hP.2.1 k (by omega)
      · rw [gu_k q, gu_k q, gu_k q, gu_k q]; exact hP.2.2 a c k q) 5 0 6000 (gm_up G 1 l 0 5 (nI b)) (by omega) (by omega) ⟨FrC.rf.up, fun k hk => by omega, fun a c k q => rfl⟩
  obtain ⟨G2, e2, ⟨f2, p2, q2⟩⟩ := lp (σ := Gm) (h := fun f v s => fX1_layOut_h43 l (nI b) (nI z) f v s) (P := fun i s => FrC l G s ∧ (∀ k, k < i → s 8 l 0 k = 1) ∧ (∀ a c k, a ≠ 8 → s a l c k = G1 a l c k)) (m := 12) (fun i f G' hi hP => by
    refine ⟨gm_up G' 8 l 0 i 1, ?_, hP.1.up, fun k hk => ?_, fun a c k q => ?_⟩
    · try dsimp only
      rw [fX1_layOut_h43.eq_2, if_neg (by rw [show (12 : Int32) = nI 12 from rfl, bs_le (by decide) (by omega)]; omega), gm_gin hi (by decide), nI_1]
    · by_cases e : k = i
      · rw [e, gu_at]
      · rw [gu_s e]; exact hP.2.1 k (by omega)
    · rw [gu_k q]; exact hP.2.2 a c k q) 12 0 6000 G1 (by omega) (by omega) ⟨f1, fun k hk => by omega, fun a c k q => rfl⟩
  obtain ⟨G3, e3, f3, t1, t2, t3, t4⟩ := c_clrT (l := l) (G := G2)
  refine ⟨gm_up (gm_up G3 1 l 0 7 0) 3 l 0 1 0, ?_, ⟨⟨⟨?_, ?_, ?_, ?_⟩, ?_, ?_, ?_, ?_, ?_, ?_⟩, ?_⟩, (f2.tr f3).up.up⟩
  · refine Eq.trans e1 ?_
    try dsimp only
    rw [show (6000 - 5 : Nat) = 5994 + 1 from rfl, fX1_layOut_h7.eq_2, if_pos (by decide)]
    refine Eq.trans e2 ?_
    try dsimp only
    rw [show (6000 - 12 : Nat) = 5987 + 1 from rfl, fX1_layOut_h43.eq_2, if_pos (by decide), e3, gm_bs]
  · rw [gu_k (by decide), gu_at]; rfl
  · rw [gu_k (by decide), gu_s (by decide), t4 1 0 5 (by decide) (by decide) (by decide), q2 1 0 5 (by decide), q1 1 0 5 (by decide), gu_at]; rfl
  · rw [gu_k (by decide), gu_s (by decide), t1]; rfl
  · rw [gu_at]; rfl
  · intro s hs
    rw [gu_k (by decide), gu_k (by decide), gu_k (by decide), gu_k (by decide), gu_k (by decide), gu_k (by decide), gu_k (by decide), gu_k (by decide), t4 4 s 1 (by decide) (by decide) (by decide), t4 4 s 2 (by decide) (by decide) (by decide), t4 4 s 3 (by decide) (by decide) (by decide), t4 4 s 4 (by decide) (by decide) (by decide), q2 4 s 1 (by decide), q2 4 s 2 (by decide), q2 4 s 3 (by decide), q2 4 s 4 (by decide)]
    obtain ⟨r1, r2, r3, r4⟩ := p1 s hs
    have v1 : sLay b z (3 + s) = 5 := by unfold sLay; rw [if_neg (by omega), if_neg (by omega), if_neg (by omega), if_pos (by omega)]
    have v2 : sLay b z (8 + 2 * s) = 5 := by unfold sLay; rw [if_neg (by omega), if_neg (by omega), if_neg (by omega), if_pos (by omega)]
    have v3 : sLay b z (8 + 2 * s + 1) = 5 := by unfold sLay; rw [if_neg (by omega), if_neg (by omega), if_neg (by omega), if_pos (by omega)]
    rw [v1, v2, v3]
    exact ⟨r1, r2, r3, r4⟩
  · intro k hk
    rw [gu_k (by decide), gu_k (by decide), t4 8 0 k (by decide) (by omega) (by omega), p2 k hk]
    have v1 : sLay b z (18 + k) = 1 := by unfold sLay; rw [if_neg (by omega), if_neg (by omega), if_neg (by omega), if_neg (by omega), if_pos (by omega)]
    rw [v1]; rfl
  · intro j hj w hw
    rw [gu_k (by decide), gu_k (by decide)]
    obtain ⟨r0, r1, r2, r3, r4⟩ := t3 j hj
    have v : sB (sLay b z) j w = if w = 1 ∨ w = 2 then NN else 0 := by
      show sLay b z (30 + 5 * j + w) = _
      unfold sLay
      rw [if_neg (by omega), if_neg (by omega), if_neg (by omega), if_neg (by omega), if_neg (by omega), if_pos (by omega)]
      by_cases c : w = 1 ∨ w = 2
      · rw [if_pos c, if_pos (by omega)]
      · rw [if_neg c, if_neg (by omega)]
    rw [v]
    rcases (show w = 0 ∨ w = 1 ∨ w = 2 ∨ w = 3 ∨ w = 4 by omega) with rfl | rfl | rfl | rfl | rfl
    · exact r0
    · exact r1.trans nI_NN.symm
    · exact r2.trans nI_NN.symm
    · exact r3
    · exact r4
  · intro k hk q
    exact absurd q (Nat.not_lt_zero _)
  · intro t ht
    exact absurd ht (Nat.not_lt_zero _)
  · intro t ht
    rw [gu_k (by decide), gu_k (by decide), t4 5 t 6 (by decide) (by decide) (by decide), q2 5 t 6 (by decide), q1 5 t 6 (by decide), gu_k (by decide)]
    exact hy t ht
  · intro s hs
    have v : sTo (sLay b z) s = false := by
      unfold sTo sOn
      have w0 : ∀ j, j < 10 → sB (sLay b z) j 0 = 0 := fun j hj => by
        show sLay b z (30 + 5 * j + 0) = _
        unfold sLay
        rw [if_neg (by omega), if_neg (by omega), if_neg (by omega), if_neg (by omega), if_neg (by omega), if_pos (by omega), if_neg (by omega)]
      rw [w0 _ (by omega), w0 _ (by omega)]
      simp
    rw [gu_k (by decide), gu_k (by decide), t2 s hs, v]; rfl
theorem sLay_B {b z j w : Nat} (hj : j < 10) (hw : w < 5) : sB (sLay b z) j w = if w = 1 ∨ w = 2 then NN else 0 := by
  show sLay b z (30 + 5 * j + w) = _
  unfold sLay
  rw [if_neg (by omega), if_neg (by omega), if_neg (by omega), if_neg (by omega), if_neg (by omega), if_pos (by omega)]
  by_cases c : w = 1 ∨ w = 2
  · rw [if_pos c, if_pos (by omega)]
  · rw [if_neg c, if_neg (by omega)]
theorem i_lay {b z : Nat} (h1 : 2 ≤ b) (h2 : b ≤ 6) (hz : z < 32) (hM : M ≤ 305) : Inv M (sLay b z) := by
  have e1 : sLay b z 1 = b := rfl
  have e2 : sLay b z 2 = z := rfl
  have e381 : sLay b z 381 = 0 := rfl
  refine ⟨fun k => ?_, by rw [e1, e2]; exact ⟨h1, h2, hz⟩, by rw [e381]; omega, fun s hs => ?_, fun k hk => ?_, fun j hj => ?_, fun t ht => ?_, fun j hj => ?_, fun j hj q => ?_⟩
  · unfold sLay
    have nn : NN = 4294967290 := rfl
    repeat' split
    all_goals omega
  · have v1 : sLay b z (3 + s) = 5 := by unfold sLay; rw [if_neg (by omega), if_neg (by omega), if_neg (by omega), if_pos (by omega)]
    have v2 : sLay b z (8 + 2 * s) = 5 := by unfold sLay; rw [if_neg (by omega), if_neg (by omega), if_neg (by omega), if_pos (by omega)]
    have v3 : sLay b z (8 + 2 * s + 1) = 5 := by unfold sLay; rw [if_neg (by omega), if_neg (by omega), if_neg (by omega), if_pos (by omega)]
    rw [v1, v2, v3]
    unfold sTo sOn
    rw [sLay_B (by omega) (by decide), sLay_B (by omega) (by decide)]
    simp
  · have v1 : sLay b z (18 + k) = 1 := by unfold sLay; rw [if_neg (by omega), if_neg (by omega), if_neg (by omega), if_neg (by omega), if_pos (by omega)]
    omega
  · rw [sLay_B hj (by decide), sLay_B hj (by decide), sLay_B hj (by decide), sLay_B hj (by decide), sLay_B hj (by decide)]
    simp
  · exact absurd ht (Nat.not_lt_zero _)
  · rw [sLay_B hj (by decide), sLay_B hj (by decide)]
    simp
  · rw [sLay_B hj (by decide), sLay_B hj (by decide)]
    simp
theorem bs_pow : ∀ b, b < 7 → 2 ≤ b → ((1 : Int32) <<< ((nI b - 1) &&& 31)) = nI (2 ^ (b - 1)) := by decide +kernel
theorem op_setUp (C : CL G 0 S) (I : Inv 12 S) (h0 : S 0 ≤ 1000000) (x y : Int32) : Op 500000 G S (fX6_setUp x y G) (fX7_setUp x y) := by
  rcases bs_rg x (a := 2) (b := 6) (by decide) (by decide) with ⟨b, b1, b2, rfl⟩ | hx
  · have pw := bs_pow b (by omega) b1
    have p5 : 2 ^ (b - 1) ≤ 32 ∧ 1 ≤ 2 ^ (b - 1) := by
      rcases (show b = 2 ∨ b = 3 ∨ b = 4 ∨ b = 5 ∨ b = 6 by omega) with rfl | rfl | rfl | rfl | rfl <;> decide
    generalize 2 ^ (b - 1) = P at *
    have d1 : ¬ nI b < 2 := by rw [show (2 : Int32) = nI 2 from rfl, bs_lt (by omega) (by decide)]; omega
    have d2 : ¬ 6 < nI b := by rw [show (6 : Int32) = nI 6 from rfl, bs_lt (by decide) (by omega)]; omega
    have i1 := m_inr (x := nI b) (y := 2) (z := 6) (a := 2) (b := 6) rfl rfl (by decide) (by decide) b1 b2 rfl
    rcases bs_rg y (a := 0) (b := P - 1) (by omega) (by decide) with ⟨z, z1, z2, rfl⟩ | hy
    · refine ⟨(S 381, sLay b z), ?_, fun G1 m => ?_, i_lay b1 b2 (by omega) (by decide), Nat.zero_le _, Nat.zero_le _⟩
      · obtain ⟨G1, e1, c1, f1⟩ := c_lay (l := 0) (G := G) (b := b) (z := z) (by omega) C.1.2.2.2.2.2.2
        refine ⟨G1, ?_, c1, f1⟩
        unfold fX6_setUp
        rw [if_neg d1, if_neg d2, if_neg (by rw [bs_neg (by omega)]; omega), pw, if_pos ((bs_lt (by omega) (by omega)).mpr (by omega)), e1, gm_bs, C.1.ap]
      · obtain ⟨G2, e1, c1, f1⟩ := m_lay (G := G1) b z
        refine ⟨G2, ?_, c1, f1⟩
        unfold fX7_setUp
        rw [i1, gm_bs, if_neg (by decide), pw, show nI P - 1 = nI (P - 1) from bs_sub (b := 1) (by omega), m_inr (y := 0) (z := nI (P - 1)) (a := 0) (b := P - 1) rfl rfl (by decide) (by omega) z1 z2 rfl, gm_bs, if_neg (by decide), e1, gm_bs, m 381 (by decide)]
    · have hy : y < 0 ∨ nI (P - 1) < y := hy
      refine Op.no C I h0 nI_m2 ?_ (fun G1 m => ?_)
      · unfold fX6_setUp
        rw [if_neg d1, if_neg d2, pw]
        by_cases c : y < 0
        · rw [if_pos c]
        · rw [if_neg c, if_neg]
          obtain ⟨k, hk, rfl⟩ := nI_of c
          have := hy.resolve_left c
          rw [bs_lt (by omega) (by omega)] at this
          rw [bs_lt (by omega) (by omega)]; omega
      · unfold fX7_setUp
        rw [i1, gm_bs, if_neg (by decide), pw, show nI P - 1 = nI (P - 1) from bs_sub (b := 1) (by omega), m_in0 hy, gm_bs, if_pos rfl]
  · have hx : x < 2 ∨ 6 < x := hx
    refine Op.no C I h0 nI_m2 ?_ (fun G1 m => ?_)
    · unfold fX6_setUp
      by_cases c : x < 2
      · rw [if_pos c]
      · rw [if_neg c, if_pos (hx.resolve_left c)]
    · unfold fX7_setUp
      rw [m_in0 hx, gm_bs, if_pos rfl]
end
