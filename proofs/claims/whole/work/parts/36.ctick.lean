section
variable {G : Gm} {S : Sm} {l M : Nat}
theorem bc_eq (C : CL0 G l S) (bx : 2 ≤ S 1) : fX1_blockCount l G = some (nI (2 * (S 1 - 1))) := by
  unfold fX1_blockCount
  rw [C.bx, show (1 : Int32) = nI 1 from rfl, bs_sub (by omega)]
  congr 1
  exact bs_mul 2 _
theorem c_clear (C : CL G l S) (I : Inv 12 S) (hr : S 80 + 1000 < 2147483647) : ∃ G', fX1_clearSections l G = some G' ∧ CL G' l (sQ3 S) ∧ FrC l G G' := by
  have bx := I.bx
  have o1 := ok_1 I hr
  have o2 := ok_2 I hr
  have r1 := o1.2.2.2.2
  have r2 := o2.2.2.2.2
  have p1 := ph_blk I (by omega) ho_out
  have p2 := ph_blk o1.1 (by omega) ho_assist
  have p3 := ph_blk o2.1 (by omega) ho_admit
  rw [o1.2.2.1] at p2
  rw [o2.2.2.1] at p3
  unfold fX1_clearSections
  rw [bc_eq C.1 bx.1, gm_bs]
  obtain ⟨G1, e1, c1, f1⟩ := lp (σ := Gm) (h := fun f v G => fX1_clearSections_h7 l f (nI (2 * (S 1 - 1))) v G) (P := fun i G' => CL G' l (sIt sOut S i) ∧ FrC l G G') (m := 2 * (S 1 - 1)) (fun i f G' hi hP => by
    have o := p1 i (by omega)
    obtain ⟨G1, g1, g2, g3⟩ := c_out hP.1 o.1 (by have := o.2.2.2.2; omega) (j := i) (by omega)
    refine ⟨G1, ?_, g2, hP.2.tr g3⟩
    show fX1_clearSections_h7 l (f + 1) _ _ _ = _
    rw [fX1_clearSections_h7.eq_2, if_neg (by rw [bs_le (by omega) (by omega)]; omega), gm_gin (by omega) (by decide), g1, gm_bs, nI_1]) (2 * (S 1 - 1)) 0 6000 G (by omega) (by omega) ⟨C, FrC.rf⟩
  obtain ⟨G2, e2, c2, f2⟩ := lp (σ := Gm) (h := fun f v G => fX1_clearSections_h31 l f (nI (2 * (S 1 - 1))) v G) (P := fun i G' => CL G' l (sIt sAssist (sQ1 S) i) ∧ FrC l G G') (m := 2 * (S 1 - 1)) (fun i f G' hi hP => by
    have o := p2 i (by omega)
    obtain ⟨G1, g1, g2, g3⟩ := c_assist hP.1 o.1 (by have := o.2.2.2.2; omega) (j := i) (by omega)
    refine ⟨G1, ?_, g2, hP.2.tr g3⟩
    show fX1_clearSections_h31 l (f + 1) _ _ _ = _
    rw [fX1_clearSections_h31.eq_2, if_neg (by rw [bs_le (by omega) (by omega)]; omega), gm_gin (by omega) (by decide), g1, gm_bs, nI_1]) (2 * (S 1 - 1)) 0 6000 G1 (by omega) (by omega) ⟨c1, f1⟩
  obtain ⟨G3, e3, c3, f3⟩ := lp (σ := Gm) (h := fun f v G => fX1_clearSections_h55 l f (nI (2 * (S 1 - 1))) v G) (P := fun i G' => CL G' l (sIt sAdmit (sQ2 S) i) ∧ FrC l G G') (m := 2 * (S 1 - 1)) (fun i f G' hi hP => by
    have o := p3 i (by omega)
    obtain ⟨G1, g1, g2, g3⟩ := c_admit hP.1 o.1 (j := i) (by omega)
    refine ⟨G1, ?_, g2, hP.2.tr g3⟩
    show fX1_clearSections_h55 l (f + 1) _ _ _ = _
    rw [fX1_clearSections_h55.eq_2, if_neg (by rw [bs_le (by omega) (by omega)]; omega), gm_gin (by omega) (by decide), g1, gm_bs, nI_1]) (2 * (S 1 - 1)) 0 6000 G2 (by omega) (by omega) ⟨c2, f2⟩
  obtain ⟨g, hg⟩ : ∃ g, 6000 - 2 * (S 1 - 1) = g + 1 := ⟨5999 - 2 * (S 1 - 1), by omega⟩
  refine ⟨G3, ?_, c3, f3⟩
  have le : nI (2 * (S 1 - 1)) ≤ nI (2 * (S 1 - 1)) := (bs_le (by omega) (by omega)).mpr (Nat.le_refl _)
  refine Eq.trans e1 ?_
  try dsimp only
  rw [hg, fX1_clearSections_h7.eq_2, if_pos le]
  refine Eq.trans e2 ?_
  try dsimp only
  rw [hg, fX1_clearSections_h31.eq_2, if_pos le]
  refine Eq.trans e3 ?_
  try dsimp only
  rw [hg, fX1_clearSections_h55.eq_2, if_pos le]
theorem lv_neg (I : Inv M S) (h0 : S 0 < 2147483648) {t : Nat} (ht : t < S 381) : (nI (sLeave S t).1 < 0) ↔ (sLeave S t).1 = NP := by
  have tr := I.tr ht
  have nn : NP = 4294967291 := rfl
  unfold sLeave
  split
  · rw [bs_neg (by omega)]
    dsimp only; omega
  · dsimp only
    rw [bs_neg (by decide)]; omega
theorem c_lvall (C : CL G l S) (I : Inv 12 S) (hr : S 80 + 305 < 2147483647) (h0 : S 0 < 2147483648) : ∃ G', fX1_leaveAll l G = some (nI (sLc S (S 381)), G') ∧ CL G' l (sIt sLeave S (S 381)) ∧ FrC l G G' := by
  have tn := I.tn
  have p := ph_trn I hr ho_leave
  unfold fX1_leaveAll
  obtain ⟨⟨v1, G1⟩, e1, ⟨hv, c1, f1⟩⟩ := lp (σ := Int32 × Gm) (h := fun f v s => fX1_leaveAll_h4 l f s.1 v s.2) (P := fun i s => s.1 = nI (sLc S i) ∧ CL s.2 l (sIt sLeave S i) ∧ FrC l G s.2) (m := S 381) (fun i f s hi hP => by
    obtain ⟨v, G'⟩ := s
    obtain ⟨hv, hC, hF⟩ := hP
    dsimp only at hv hC hF
    have o := p i (by omega)
    have hi' : i < sIt sLeave S i 381 := by rw [o.2.2.2.1]; exact hi
    obtain ⟨G1, g1, g2, g3⟩ := c_leave hC o.1 (t := i) hi'
    have ln := lv_neg o.1 (by rw [o.2.1]; exact h0) hi'
    have e := hC.1.ap
    rw [o.2.2.2.1] at e
    refine ⟨(nI (sLc S (i + 1)), G1), ?_, rfl, g2, hF.tr g3⟩
    try dsimp only
    rw [fX1_leaveAll_h4.eq_2, e, if_neg (by rw [bs_le (by omega) (by omega)]; omega), gm_gin (by omega) (by decide), g1, gm_bs, hv, nI_1, nI_1]
    have es : sLc S (i + 1) = sLc S i + (if (sLeave (sIt sLeave S i) i).1 = NP then 0 else 1) := rfl
    by_cases c : (sLeave (sIt sLeave S i) i).1 = NP
    · rw [if_pos (ln.mpr c), es, if_pos c]; rfl
    · rw [if_neg (fun q => c (ln.mp q)), es, if_neg c]) (S 381) 0 6000 (0, G) (by omega) (by omega) ⟨rfl, C, FrC.rf⟩
  dsimp only at hv c1 f1 e1
  have o := p (S 381) (Nat.le_refl _)
  have e := c1.1.ap
  rw [o.2.2.2.1] at e
  obtain ⟨g, hg⟩ : ∃ g, 6000 - S 381 = g + 1 := ⟨5999 - S 381, by omega⟩
  refine ⟨G1, ?_, c1, f1⟩
  refine Eq.trans e1 ?_
  rw [hg, fX1_leaveAll_h4.eq_2, e, if_pos ((bs_le (by omega) (by omega)).mpr (Nat.le_refl _)), hv]
theorem c_ofall (C : CL G l S) (I : Inv 12 S) (hr : S 80 + 305 < 2147483647) : ∃ G', fX1_offerAll l G = some G' ∧ CL G' l (sIt sOffer S (S 381)) ∧ FrC l G G' := by
  have tn := I.tn
  have p := ph_trn I hr ho_offer
  unfold fX1_offerAll
  obtain ⟨G1, e1, ⟨c1, f1⟩⟩ := lp (σ := Gm) (h := fun f v s => fX1_offerAll_h2 l f v s) (P := fun i s => CL s l (sIt sOffer S i) ∧ FrC l G s) (m := S 381) (fun i f G' hi hP => by
    have o := p i (by omega)
    have hi' : i < sIt sOffer S i 381 := by rw [o.2.2.2.1]; exact hi
    obtain ⟨G1, g1, g2, g3⟩ := c_offer hP.1 o.1 (by have := o.2.2.2.2; omega) (t := i) hi'
    have e := hP.1.1.ap
    rw [o.2.2.2.1] at e
    refine ⟨G1, ?_, g2, hP.2.tr g3⟩
    try dsimp only
    rw [fX1_offerAll_h2.eq_2, e, if_neg (by rw [bs_le (by omega) (by omega)]; omega), gm_gin (by omega) (by decide), g1, gm_bs, nI_1]) (S 381) 0 6000 G (by omega) (by omega) ⟨C, FrC.rf⟩
  have o := p (S 381) (Nat.le_refl _)
  have e := c1.1.ap
  rw [o.2.2.2.1] at e
  obtain ⟨g, hg⟩ : ∃ g, 6000 - S 381 = g + 1 := ⟨5999 - S 381, by omega⟩
  refine ⟨G1, ?_, c1, f1⟩
  refine Eq.trans e1 ?_
  try dsimp only
  rw [hg, fX1_offerAll_h2.eq_2, e, if_pos ((bs_le (by omega) (by omega)).mpr (Nat.le_refl _))]
theorem c_deall (C : CL G l S) (I : Inv 12 S) (hr : S 80 + 305 < 2147483647) : ∃ G', fX1_departAll l G = some G' ∧ CL G' l (sIt sDepart S (S 381)) ∧ FrC l G G' := by
  have tn := I.tn
  have p := ph_trn I hr ho_depart
  unfold fX1_departAll
  obtain ⟨G1, e1, ⟨c1, f1⟩⟩ := lp (σ := Gm) (h := fun f v s => fX1_departAll_h2 l f v s) (P := fun i s => CL s l (sIt sDepart S i) ∧ FrC l G s) (m := S 381) (fun i f G' hi hP => by
    have o := p i (by omega)
    have hi' : i < sIt sDepart S i 381 := by rw [o.2.2.2.1]; exact hi
    obtain ⟨G1, g1, g2, g3⟩ := c_depart hP.1 o.1 (by have := o.2.2.2.2; omega) (t := i) hi'
    have e := hP.1.1.ap
    rw [o.2.2.2.1] at e
    refine ⟨G1, ?_, g2, hP.2.tr g3⟩
    try dsimp only
    rw [fX1_departAll_h2.eq_2, e, if_neg (by rw [bs_le (by omega) (by omega)]; omega), gm_gin (by omega) (by decide), g1, gm_bs, nI_1]) (S 381) 0 6000 G (by omega) (by omega) ⟨C, FrC.rf⟩
  have o := p (S 381) (Nat.le_refl _)
  have e := c1.1.ap
  rw [o.2.2.2.1] at e
  obtain ⟨g, hg⟩ : ∃ g, 6000 - S 381 = g + 1 := ⟨5999 - S 381, by omega⟩
  refine ⟨G1, ?_, c1, f1⟩
  refine Eq.trans e1 ?_
  try dsimp only
  rw [hg, fX1_departAll_h2.eq_2, e, if_pos ((bs_le (by omega) (by omega)).mpr (Nat.le_refl _))]
theorem ac_neg {j : Nat} : (0 ≤ nI (sAccept S j).1) ↔ ¬ (sAccept S j).1 = NP := by
  have nn : NP = 4294967291 := rfl
  unfold sAccept
  split
  · rw [bs_ge (sCo_lt _)]
    try dsimp only
    have : sCo (sT S (sB S j 1) 0) ≤ 41 := by unfold sCo; repeat' (first | decide | split)
    omega
  · dsimp only
    rw [bs_ge (by decide)]; omega
theorem ac_same {j : Nat} (h : (sAccept S j).1 = NP) : (sAccept S j).2 = S := by
  have nn : NP = 4294967291 := rfl
  unfold sAccept at h ⊢
  split
  · rename_i c
    rw [if_pos c] at h
    dsimp only at h
    have : sCo (sT S (sB S j 1) 0) ≤ 41 := by unfold sCo; repeat' (first | decide | split)
    omega
  · rfl
theorem an_p {j : Nat} (h : (sAccept S j).1 = NP) : sAns S j = sRefuse S j := if_pos h
theorem an_n {j : Nat} (h : ¬ (sAccept S j).1 = NP) : sAns S j = sAccept S j := if_neg h
theorem c_anall (C : CL G l S) (I : Inv 12 S) (hr : S 80 + 305 < 2147483647) : ∃ G', fX1_answerAll l G = some G' ∧ CL G' l (sIt sAns S (2 * (S 1 - 1))) ∧ FrC l G G' := by
  have bx := I.bx
  have p := ph_blk I (by omega) ho_ans
  unfold fX1_answerAll
  obtain ⟨G1, e1, ⟨c1, f1⟩⟩ := lp (σ := Gm) (h := fun f v s => fX1_answerAll_h2 l f v s) (P := fun i s => CL s l (sIt sAns S i) ∧ FrC l G s) (m := 2 * (S 1 - 1)) (fun i f G' hi hP => by
    have o := p i (by omega)
    have r := o.2.2.2.2
    have hi' : i / 2 + 1 < sIt sAns S i 1 := by rw [o.2.2.1]; omega
    obtain ⟨G1, g1, g2, g3⟩ := c_accept hP.1 o.1 (by omega) (j := i) hi'
    have e := bc_eq hP.1.1 (by rw [o.2.2.1]; exact bx.1)
    rw [o.2.2.1] at e
    have es : sIt sAns S (i + 1) = (sAns (sIt sAns S i) i).2 := rfl
    by_cases c : (sAccept (sIt sAns S i) i).1 = NP
    · rw [ac_same c] at g2
      rw [an_p c] at es
      obtain ⟨G2, k1, k2, k3⟩ := c_refuse g2 o.1 (by omega) (j := i) (by omega)
      refine ⟨G2, ?_, by rw [es]; exact k2, (hP.2.tr g3).tr k3⟩
      try dsimp only
      rw [fX1_answerAll_h2.eq_2, e, gm_bs, if_neg (by rw [bs_le (by omega) (by omega)]; omega), gm_gin (by omega) (by decide), g1, gm_bs]
      try dsimp only
      rw [if_neg (fun q => ac_neg.mp q c), gm_gin (by omega) (by decide), k1, gm_bs, nI_1]
    · rw [an_n c] at es
      refine ⟨G1, ?_, by rw [es]; exact g2, hP.2.tr g3⟩
      try dsimp only
      rw [fX1_answerAll_h2.eq_2, e, gm_bs, if_neg (by rw [bs_le (by omega) (by omega)]; omega), gm_gin (by omega) (by decide), g1, gm_bs]
      try dsimp only
      rw [if_pos (ac_neg.mpr c), nI_1]) (2 * (S 1 - 1)) 0 6000 G (by omega) (by omega) ⟨C, FrC.rf⟩
  have o := p (2 * (S 1 - 1)) (Nat.le_refl _)
  have e := bc_eq c1.1 (by rw [o.2.2.1]; exact bx.1)
  rw [o.2.2.1] at e
  obtain ⟨g, hg⟩ : ∃ g, 6000 - 2 * (S 1 - 1) = g + 1 := ⟨5999 - 2 * (S 1 - 1), by omega⟩
  refine ⟨G1, ?_, c1, f1⟩
  refine Eq.trans e1 ?_
  try dsimp only
  rw [hg, fX1_answerAll_h2.eq_2, e, gm_bs, if_pos ((bs_le (by omega) (by omega)).mpr (Nat.le_refl _))]
theorem c_tick (C : CL G l S) (I : Inv 12 S) (hr : S 80 + 1000 < 2147483647) (h0 : S 0 < 2147483647) : ∃ G', fX1_workTick l G = some (nI (sWl S), G') ∧ CL G' l (sWk S) ∧ FrC l G G' := by
  have o3 := ok_3 I hr
  have o4 := ok_4 I hr
  have o5 := ok_5 I hr
  have o6 := ok_6 I hr
  have o7 := ok_7 I hr
  have r3 := o3.2.2.2.2
  have r4 := o4.2.2.2.2
  have r5 := o5.2.2.2.2
  have r6 := o6.2.2.2.2
  obtain ⟨G3, e3, c3, f3⟩ := c_clear C I hr
  obtain ⟨G4, e4, c4, f4⟩ := c_lvall c3 o3.1 (by omega) (by rw [o3.2.1]; omega)
  rw [o3.2.2.2.1] at e4 c4
  obtain ⟨G5, e5, c5, f5⟩ := c_ofall c4 o4.1 (by show sQ4 S 80 + 305 < _; omega)
  rw [show sIt sLeave (sQ3 S) (S 381) 381 = S 381 from o4.2.2.2.1] at c5
  obtain ⟨G6, e6, c6, f6⟩ := c_anall c5 o5.1 (by show sQ5 S 80 + 305 < _; omega)
  rw [show sIt sOffer (sIt sLeave (sQ3 S) (S 381)) (S 381) 1 = S 1 from o5.2.2.1] at c6
  obtain ⟨G7, e7, c7, f7⟩ := c_deall c6 o6.1 (by show sQ6 S 80 + 305 < _; omega)
  rw [show sIt sAns (sIt sOffer (sIt sLeave (sQ3 S) (S 381)) (S 381)) (2 * (S 1 - 1)) 381 = S 381 from o6.2.2.2.1] at c7
  obtain ⟨G8, e8, c8, f8⟩ := c_pass c7 o7.1 (x := 1) (by decide)
  refine ⟨G8, ?_, c8, ((((f3.tr f4).tr f5).tr f6).tr f7).tr f8⟩
  unfold fX1_workTick
  rw [e3, gm_bs, e4, gm_bs]
  try dsimp only
  rw [e5, gm_bs, e6, gm_bs, e7, gm_bs, show (1 : Int32) = nI 1 from rfl, e8, gm_bs]
  rfl
end
