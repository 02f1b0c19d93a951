section
variable {G : Gm} {S : Sm} {l M : Nat}
/-- a block is taken back: the row's words for it -/
theorem c_tb (C : CL0 G l S) (T : TO G l S) (I : Inv 12 S) {j v : Nat} {y : Int32} (hy : y = nI v) (hj : j < 10) (hv : v = 0 ∨ v = 3) (hn2 : sB S j 0 ≠ 2) : ∃ G', fX0_takeBack l j y G = some G' ∧ CL0 G' l (su (su (su (sUnc S j) (30 + 5 * j + 0) v) (30 + 5 * j + 1) NN) (30 + 5 * j + 2) NN) ∧ FrC l G G' ∧ TO G' l (su (su (su (sUnc S j) (30 + 5 * j + 0) v) (30 + 5 * j + 1) NN) (30 + 5 * j + 2) NN) := by
  have bk := I.bk hj
  unfold fX0_takeBack
  simp only [C.b0 hj, bs_l (I.lb j 0) (show 1 < 4294967296 by decide)]
  have eon : ∀ S' : Sm, sOn (su (su (su S' (30 + 5 * j + 0) v) (30 + 5 * j + 1) NN) (30 + 5 * j + 2) NN) j = false := by
    intro S'
    unfold sOn
    have : sB (su (su (su S' (30 + 5 * j + 0) v) (30 + 5 * j + 1) NN) (30 + 5 * j + 2) NN) j 0 = v := by
      show su _ _ _ _ = _
      rw [su_ne (by omega), su_ne (by omega), su_at]
    rw [this]
    rcases hv with rfl | rfl <;> rfl
  by_cases c : sB S j 0 = 1
  · unfold fX0_rearEnd
    rw [if_pos c, gm_bs]
    obtain ⟨G1, g1, g2, g3, g4, g5⟩ := c_put C (s := j / 2) (e := j % 2) rfl (by omega) (by omega)
    rw [g1, gm_bs]
    have eu : su S (8 + 2 * (j / 2) + j % 2) (S (8 + 2 * (j / 2) + j % 2) + if sSg S (j / 2) = true then 1 else 0) = fun k => if k = 30 + 5 * j + 2 then S k else sUnc S j k := by
      funext k
      unfold sUnc
      rw [if_pos c]
      unfold su
      by_cases k1 : k = 30 + 5 * j + 2
      · rw [if_pos k1, if_neg (by omega)]
      · rw [if_neg k1]
        by_cases k2 : k = 8 + 2 * (j / 2) + j % 2
        · rw [if_pos k2, if_pos k2]
        · rw [if_neg k2, if_neg k2, if_neg k1]
    have C3 := ((g2.b (j := j) (w := 0) (v := v) (z := 2) (x := y) rfl hy hj (by decide)).b (j := j) (w := 1) (v := NN) (z := 3) (x := -6) rfl nI_NN.symm hj (by decide)).b (j := j) (w := 2) (v := NN) (z := 4) (x := -6) rfl nI_NN.symm hj (by decide)
    have es : su (su (su (su S (8 + 2 * (j / 2) + j % 2) (S (8 + 2 * (j / 2) + j % 2) + if sSg S (j / 2) = true then 1 else 0)) (30 + 5 * j + 0) v) (30 + 5 * j + 1) NN) (30 + 5 * j + 2) NN = su (su (su (sUnc S j) (30 + 5 * j + 0) v) (30 + 5 * j + 1) NN) (30 + 5 * j + 2) NN := by
      rw [eu]
      funext k
      unfold su
      by_cases k1 : k = 30 + 5 * j + 2
      · rw [if_pos k1, if_pos k1]
      · simp only [if_neg k1]
    rw [es] at C3
    refine ⟨_, rfl, C3, (g3.up).up.up, ?_⟩
    have on1 : sOn S j = true := by unfold sOn; rw [c]; rfl
    refine to_set (on := false) (j := j) I T hj ?_ (fun j' h1 h2 => ?_) (eon _) (op_off I hj on1) (fun s' => ?_)
    · rw [su_ne (by omega), su_ne (by omega), su_ne (by omega)]
      unfold sUnc
      rw [if_pos c, su_ne (by omega), su_ne (by omega)]
    · show su _ _ _ _ = _
      rw [su_ne (by omega), su_ne (by omega), su_ne (by omega)]
      unfold sUnc
      rw [if_pos c, su_ne (by omega), su_ne (by omega)]
    · rw [gu_k (by decide), gu_k (by decide), gu_k (by decide), g4]
      rfl
  · have C3 := ((C.b (j := j) (w := 0) (v := v) (z := 2) (x := y) rfl hy hj (by decide)).b (j := j) (w := 1) (v := NN) (z := 3) (x := -6) rfl nI_NN.symm hj (by decide)).b (j := j) (w := 2) (v := NN) (z := 4) (x := -6) rfl nI_NN.symm hj (by decide)
    have eu : sUnc S j = S := by unfold sUnc; rw [if_neg c]
    rw [if_neg c, eu]
    refine ⟨_, rfl, C3, FrC.rf.up.up.up, fun s hs => ?_⟩
    rw [gu_k (by decide), gu_k (by decide), gu_k (by decide), T s hs]
    by_cases c2 : sB S j 0 = 2
    · exact absurd c2 hn2
    · have : sTo (su (su (su S (30 + 5 * j + 0) v) (30 + 5 * j + 1) NN) (30 + 5 * j + 2) NN) s = sTo S s := by
        unfold sTo
        have e : ∀ j', sOn (su (su (su S (30 + 5 * j + 0) v) (30 + 5 * j + 1) NN) (30 + 5 * j + 2) NN) j' = sOn S j' := by
          intro j'
          by_cases q : j' = j
          · rw [q, eon]
            unfold sOn
            simp [c, c2]
          · unfold sOn
            have : sB (su (su (su S (30 + 5 * j + 0) v) (30 + 5 * j + 1) NN) (30 + 5 * j + 2) NN) j' 0 = sB S j' 0 := by
              show su _ _ _ _ = _
              rw [su_ne (by omega), su_ne (by omega), su_ne (by omega)]
            rw [this]
        rw [e, e, sSg_su (by omega), sSg_su (by omega), sSg_su (by omega)]
      rw [this]
theorem sUnc_at {j k : Nat} : sUnc S j k = if sB S j 0 = 1 then (if k = 8 + 2 * (j / 2) + j % 2 then S (8 + 2 * (j / 2) + j % 2) + (if sSg S (j / 2) then 1 else 0) else if k = 30 + 5 * j + 2 then NN else S k) else S k := by
  unfold sUnc
  split
  · unfold su; rfl
  · rfl
theorem c_cancel (C : CL G l S) (I : Inv 12 S) (hr : S 80 < 2147483647) {j : Nat} (hj : j < 10) : CS l G (fX1_cancelBlock l j G) (sCancel S j) := by
  obtain ⟨C, T⟩ := C
  have bk := I.bk hj
  unfold fX1_cancelBlock sCancel
  simp only [C.b1 hj, C.b0 hj, bs_n6 (I.lb j 1), bs_l (I.lb j 0) (show 1 < 4294967296 by decide)]
  by_cases q : sB S j 1 = NN ∧ sB S j 0 ≠ 1
  · rw [if_pos q, if_pos q.1, if_neg q.2]
    exact ⟨G, rfl, ⟨C, T⟩, FrC.rf⟩
  · rw [if_neg q]
    have h2 : sB S j 0 ≠ 2 := by
      intro z
      exact q ⟨by
        by_cases w : sB S j 1 = NN
        · exact w
        · have := bk.2.2.2.2.2.2.1 w; omega, by omega⟩
    obtain ⟨G1, g1, g2, g3, g4⟩ := c_tb C T I (j := j) (v := 0) (y := 0) rfl hj (Or.inl rfl) h2
    have es : su (su (su (sUnc S j) (30 + 5 * j + 0) 0) (30 + 5 * j + 1) NN) (30 + 5 * j + 2) NN = su (sUnc (su S (30 + 5 * j + 1) NN) j) (30 + 5 * j + 0) 0 := by
      have e0 : sB (su S (30 + 5 * j + 1) NN) j 0 = sB S j 0 := su_ne (by omega)
      have e8 : su S (30 + 5 * j + 1) NN (8 + 2 * (j / 2) + j % 2) = S (8 + 2 * (j / 2) + j % 2) := su_ne (by omega)
      funext k
      unfold su
      rw [sUnc_at, sUnc_at]
      have e0' : sB (fun k => if k = 30 + 5 * j + 1 then NN else S k) j 0 = sB S j 0 := e0
      have esg : sSg (fun k => if k = 30 + 5 * j + 1 then NN else S k) (j / 2) = sSg S (j / 2) := sSg_su (S := S) (i := 30 + 5 * j + 1) (v := NN) (by omega)
      have ek : (if 8 + 2 * (j / 2) + j % 2 = 30 + 5 * j + 1 then NN else S (8 + 2 * (j / 2) + j % 2)) = S (8 + 2 * (j / 2) + j % 2) := if_neg (by omega)
      rw [e0', esg, ek]
      by_cases k0 : k = 30 + 5 * j + 0
      · rw [if_neg (by omega), if_neg (by omega), if_pos k0, if_pos k0]
      · rw [if_neg k0, if_neg k0]
        by_cases k1 : k = 30 + 5 * j + 1
        · rw [if_neg (by omega), if_pos k1]
          split
          · rw [if_neg (by omega), if_neg (by omega)]
          · rfl
        · rw [if_neg k1, if_neg k1]
          by_cases k2 : k = 30 + 5 * j + 2
          · rw [if_pos k2]
            split
            · rw [if_neg (by omega)]
            · rename_i z
              rw [k2]
              symm
              apply bk.2.2.2.2.2.2.2.mpr
              by_cases w : sB S j 1 = NN
              · exact absurd ⟨w, z⟩ q
              · exact Or.inl (bk.2.2.2.2.2.2.1 w)
          · rw [if_neg k2]
    rw [es] at g2 g4
    have key : CS l G ((fX0_takeBack l j 0 G).bind fun q3 => (fX1_ringRear l j 35 q3).bind fun q4 => some (q4.1, q4.2)) (35, sRing (su (sUnc (su S (30 + 5 * j + 1) NN) j) (30 + 5 * j + 0) 0) j (sRr j) 35) := by
      obtain ⟨G', e', k1, k2, k3, k4⟩ := c_rr g2 (by rw [su_ne (by omega), sUnc_80 _ hj, su_ne (by omega)]; exact hr) (j := j) (c := 35) (y := 35) rfl
      rw [g1, gm_bs, e', gm_bs]
      refine ⟨G', rfl, ⟨k1, ?_⟩, g3.tr k2⟩
      exact g4.of k3 (by dsimp only; rw [ring2]) (fun j' hj' => by dsimp only; rw [ringB hj'])
    by_cases w : sB S j 1 = NN
    · rw [if_pos w, if_pos (by
        by_cases z : sB S j 0 = 1
        · exact z
        · exact absurd ⟨w, z⟩ q)]
      exact key
    · rw [if_neg w]
      exact key
theorem c_obst (C : CL G l S) (I : Inv 12 S) (hr : S 80 < 2147483647) {j : Nat} (hj : j < 10) : CS l G (fX1_obstructBlock l j G) (sObst S j) := by
  obtain ⟨C, T⟩ := C
  have bk := I.bk hj
  unfold fX1_obstructBlock sObst
  simp only [C.b0 hj, bs_l (I.lb j 0) (show 0 < 4294967296 by decide), bs_l (I.lb j 0) (show 1 < 4294967296 by decide)]
  by_cases q : sB S j 0 ≤ 1
  · rw [if_pos q]
    obtain ⟨G1, g1, g2, g3, g4⟩ := c_tb C T I (j := j) (v := 3) (y := 3) rfl hj (Or.inr rfl) (by omega)
    have es : su (su (su (sUnc S j) (30 + 5 * j + 0) 3) (30 + 5 * j + 1) NN) (30 + 5 * j + 2) NN = su (su (sUnc S j) (30 + 5 * j + 1) NN) (30 + 5 * j + 0) 3 := by
      funext k
      unfold su
      by_cases k2 : k = 30 + 5 * j + 2
      · rw [if_pos k2, if_neg (by omega), if_neg (by omega), sUnc_at]
        split
        · rw [if_neg (by omega)]
        · rw [k2]
          symm
          exact bk.2.2.2.2.2.2.2.mpr (Or.inl (by omega))
      · rw [if_neg k2]
        by_cases k1 : k = 30 + 5 * j + 1
        · rw [if_pos k1, if_neg (by omega), if_pos k1]
        · rw [if_neg k1, if_neg k1]
    rw [es] at g2 g4
    have key : CS l G ((fX0_takeBack l j 3 G).bind fun q2 => (fX1_ringAhead l j 6 q2).bind fun q3 => some (nI (sB S j 0), q3.2)) (sB S j 0, sRing (su (su (sUnc S j) (30 + 5 * j + 1) NN) (30 + 5 * j + 0) 3) j (sAh j) 6) := by
      obtain ⟨G', e', k1, k2, k3, k4⟩ := c_ra g2 (by rw [su_ne (by omega), su_ne (by omega), sUnc_80 _ hj]; exact hr) (j := j) (c := 6) (y := 6) rfl
      rw [g1, gm_bs, e', gm_bs]
      exact ⟨G', rfl, ⟨k1, g4.of k3 (by dsimp only; rw [ring2]) (fun j' hj' => by dsimp only; rw [ringB hj'])⟩, g3.tr k2⟩
    by_cases z : sB S j 0 = 0
    · rw [if_pos z]
      exact key
    · rw [if_neg z, if_pos (by omega)]
      exact key
  · rw [if_neg q, if_neg (by omega), if_neg (by omega)]
    exact ⟨G, rfl, ⟨C, T⟩, FrC.rf⟩
theorem c_out (C : CL G l S) (I : Inv 12 S) (hr : S 80 < 2147483647) {j : Nat} (hj : j < 10) : CS l G (fX1_reportOut l j G) (sOut S j) := by
  obtain ⟨C, T⟩ := C
  have bk := I.bk hj
  unfold fX1_reportOut sOut
  simp only [C.b0 hj, C.b3 hj, bs_l (I.lb j 0) (show 2 < 4294967296 by decide), bs_l (I.lb j 3) (show 0 < 4294967296 by decide), c_ins C I hj, gm_bs]
  by_cases c : sB S j 0 = 2
  · rw [if_pos c]
    by_cases c3 : sB S j 3 = 0
    · rw [if_pos c3]
      cases ci : sIn S j with
      | true =>
        rw [if_pos rfl, gm_els, if_neg (fun z => by cases z.2.1)]
        exact ⟨G, rfl, ⟨C, T⟩, FrC.rf⟩
      | false =>
        rw [if_neg (by decide), gm_eln, if_pos ⟨c, rfl, by omega⟩]
        unfold fX0_makeFree fX0_endAhead
        have e1 : (1 : Int32) - nI (j % 2) = nI (1 - j % 2) := by rw [show (1 : Int32) = nI 1 from rfl, bs_sub (by omega)]
        rw [gm_bs, e1]
        have C2 := (C.b (j := j) (w := 0) (v := 0) (z := 2) (x := 0) rfl rfl hj (by decide)).b (j := j) (w := 2) (v := NN) (z := 4) (x := -6) rfl nI_NN.symm hj (by decide)
        obtain ⟨G1, g1, g2, g3, g4, g5⟩ := c_put C2 (s := j / 2) (e := 1 - j % 2) rfl (by omega) (by omega)
        have e8 : su (su S (30 + 5 * j + 0) 0) (30 + 5 * j + 2) NN (8 + 2 * (j / 2) + (1 - j % 2)) = S (8 + 2 * (j / 2) + (1 - j % 2)) := by rw [su_ne (by omega), su_ne (by omega)]
        have esg : ∀ s, sSg (su (su S (30 + 5 * j + 0) 0) (30 + 5 * j + 2) NN) s = sSg S s := fun s => by rw [sSg_su (by omega), sSg_su (by omega)]
        rw [e8, esg] at g2
        simp only [esg] at g4
        rw [g1, gm_bs, gm_bs]
        obtain ⟨G', e', k1, k2, k3, k4⟩ := c_ra g2 (by rw [su_ne (by omega), su_ne (by omega), su_ne (by omega)]; exact hr) (j := j) (c := 21) (y := 21) rfl
        rw [e', gm_bs]
        refine ⟨G', rfl, ⟨k1, ?_⟩, ((FrC.rf.up.up).tr g3).tr k2⟩
        have on1 : sOn S j = true := by unfold sOn; rw [c]; rfl
        refine to_set (on := false) (j := j) I T hj (by dsimp only; rw [ring2, su_ne (by omega), su_ne (by omega), su_ne (by omega)]) (fun j' h1 h2 => by
          dsimp only
          rw [ringB h1]
          show su _ _ _ _ = _
          rw [su_ne (by omega), su_ne (by omega), su_ne (by omega)]) ?_ (op_off I hj on1) (fun s' => ?_)
        · unfold sOn
          dsimp only
          rw [ringB hj]
          have : sB (su (su (su S (30 + 5 * j + 0) 0) (30 + 5 * j + 2) NN) (8 + 2 * (j / 2) + (1 - j % 2)) (S (8 + 2 * (j / 2) + (1 - j % 2)) + if sSg S (j / 2) = true then 1 else 0)) j 0 = 0 := by
            show su _ _ _ _ = _
            rw [su_ne (by omega), su_ne (by omega), su_at]
          rw [this]; rfl
        · rw [k3, g4, gu_k (by decide), gu_k (by decide)]
          rfl
    · rw [if_neg c3, if_neg (fun z => by omega)]
      exact ⟨G, rfl, ⟨C, T⟩, FrC.rf⟩
  · rw [if_neg c, if_neg (fun z => c z.1)]
    exact ⟨G, rfl, ⟨C, T⟩, FrC.rf⟩
theorem c_admit (C : CL G l S) (I : Inv 12 S) {j : Nat} (hj : j < 10) : CS l G (fX1_admitTrain l j G) (sAdmit S j) := by
  obtain ⟨C, T⟩ := C
  have bk := I.bk hj
  have tn := I.tn
  have ha : sAh j < 4294967296 := by unfold sAh; omega
  have ea : nI (j / 2) + 1 - nI (j % 2) = nI (sAh j) := by unfold sAh; rw [nI_1, bs_sub (by omega)]
  unfold fX1_admitTrain sAdmit
  rw [c_ins C I hj, gm_bs]
  cases ci : sIn S j with
  | false =>
    rw [if_neg (by decide), gm_eln, if_neg (fun z => by cases z.1)]
    exact ⟨G, rfl, ⟨C, T⟩, FrC.rf⟩
  | true =>
    have ht : sB S j 2 < S 381 := by
      unfold sIn at ci
      have := (decide_eq_true_iff.mp ci).1
      omega
    have tr := I.tr ht
    rw [if_pos rfl, gm_els]
    unfold fX0_boxAhead
    have o4 : (0 : Int32) < nI (sT S (sB S j 2) 4) ↔ ¬ sT S (sB S j 2) 4 = 0 := by
      rw [show (0 : Int32) = nI 0 from rfl, bs_lt (by decide) (by omega)]; omega
    simp only [C.t4 ht, o4, gm_bs, ea, c_free C I ha (show j % 2 < 4294967296 by omega), true_and]
    by_cases c4 : sT S (sB S j 2) 4 = 0
    · rw [if_neg (fun z => z c4)]
      cases cf : sFr S (sAh j) (j % 2) with
      | false =>
        simp only [Bool.false_eq_true, if_false, if_pos, and_false]
        exact ⟨G, rfl, ⟨C, T⟩, FrC.rf⟩
      | true =>
        unfold fX5_standAt
        rw [if_pos rfl, if_neg bs_01, if_pos ⟨c4, rfl⟩, gm_bs]
        have C2 := (C.t (t := sB S j 2) (w := 2) (v := 0) (z := 3) (x := 0) rfl rfl (by decide) (by decide)).t (t := sB S j 2) (w := 3) (v := sAh j) (z := 4) rfl rfl (by decide) (by omega)
        refine ⟨_, rfl, ⟨C2, ?_⟩, FrC.rf.up.up⟩
        refine T.of (fun s => by rw [gu_k (by decide), gu_k (by decide)]) (by dsimp only; rw [su_ne (by omega), su_ne (by omega)]) (fun j' hj' => ?_)
        show su _ _ _ _ = _
        rw [su_ne (by omega), su_ne (by omega)]
    · rw [if_pos c4, if_neg (fun z => c4 z.1)]
      exact ⟨G, rfl, ⟨C, T⟩, FrC.rf⟩
end
