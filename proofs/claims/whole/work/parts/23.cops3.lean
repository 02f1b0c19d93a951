section
variable {G : Gm} {S : Sm} {l M : Nat}
theorem gm_els {β : Type} {t : Nat} {A : Option β} {B : Nat → Option β} : gm_el (some t) A B = B t := rfl
theorem gm_eln {β : Type} {A : Option β} {B : Nat → Option β} : gm_el none A B = A := rfl
theorem su_self (S : Sm) (i : Nat) : su S i (S i) = S := by
  funext k
  unfold su
  split
  · rename_i e; rw [e]
  · rfl
theorem c_take (C : CL0 G l S) {s e : Nat} {y : Int32} (hy : y = nI e) (hs : s < 5) (he : e < 2) (h0 : sSg S s = true → 0 < S (8 + 2 * s + e)) : ∃ G', fX4_takeToken l s y G = some G' ∧ CL0 G' l (su S (8 + 2 * s + e) (S (8 + 2 * s + e) - (if sSg S s then 1 else 0))) ∧ FrC l G G' ∧ (∀ s', G' 4 l s' 5 = if sSg S s = true ∧ s' = s then 1 else G 4 l s' 5) ∧ (∀ a c k, a ≠ 4 → G' a l c k = G a l c k) := by
  obtain ⟨s1, s2, s3, s4⟩ := C.sc hs
  unfold fX4_takeToken
  rw [s1]
  cases cs : sSg S s with
  | false =>
    refine ⟨G, rfl, ?_, FrC.rf, fun s' => by simp, fun _ _ _ _ => rfl⟩
    simp only [Bool.false_eq_true, if_false, Nat.sub_zero]
    rw [su_self]; exact C
  | true =>
    rw [cs] at s3 s4
    simp only [if_true] at s3 s4
    have h0 := h0 cs
    have em : ∀ v : Nat, 0 < v → nI v + -1 = nI (v - 1) := by
      intro v hv
      rw [← Int32.sub_eq_add_neg, show (1 : Int32) = nI 1 from rfl, bs_sub hv]
    rw [if_pos rfl, if_neg bs_01]
    unfold fX4_addTokens
    rw [hy, s3, s4]
    rcases (show e = 0 ∨ e = 1 by omega) with rfl | rfl
    · rw [if_pos (show nI 0 = 0 from rfl), gm_bs, em _ (show 0 < S (8 + 2 * s) from h0)]
      refine ⟨_, rfl, ?_, FrC.rf.up.up, fun s' => ?_, fun a c k q => by rw [gu_k q, gu_k q]⟩
      · simp only [if_true]
        exact (C.k (e := 0) rfl hs (by decide) (fun _ => rfl) (fun q => by rw [cs] at q; cases q)).o
      · by_cases q : s' = s
        · rw [q, gu_at]; simp
        · rw [gu_c q, gu_c q]; simp [q]
    · rw [if_neg (show ¬ nI 1 = 0 by decide), gm_bs, em _ h0]
      refine ⟨_, rfl, ?_, FrC.rf.up.up, fun s' => ?_, fun a c k q => by rw [gu_k q, gu_k q]⟩
      · simp only [if_true]
        exact (C.k (e := 1) rfl hs (by decide) (fun _ => rfl) (fun q => by rw [cs] at q; cases q)).o
      · by_cases q : s' = s
        · rw [q, gu_at]; simp
        · rw [gu_c q, gu_c q]; simp [q]
theorem c_put (C : CL0 G l S) {s e : Nat} {y : Int32} (hy : y = nI e) (hs : s < 5) (he : e < 2) : ∃ G', fX4_putToken l s y G = some G' ∧ CL0 G' l (su S (8 + 2 * s + e) (S (8 + 2 * s + e) + (if sSg S s then 1 else 0))) ∧ FrC l G G' ∧ (∀ s', G' 4 l s' 5 = if sSg S s = true ∧ s' = s then 0 else G 4 l s' 5) ∧ (∀ a c k, a ≠ 4 → G' a l c k = G a l c k) := by
  obtain ⟨s1, s2, s3, s4⟩ := C.sc hs
  unfold fX4_putToken
  rw [s1]
  cases cs : sSg S s with
  | false =>
    refine ⟨G, rfl, ?_, FrC.rf, fun s' => by simp, fun _ _ _ _ => rfl⟩
    simp only [Bool.false_eq_true, if_false, Nat.add_zero]
    rw [su_self]; exact C
  | true =>
    rw [cs] at s3 s4
    simp only [if_true] at s3 s4
    rw [if_pos rfl, if_neg bs_01]
    unfold fX4_addTokens
    rw [hy, s3, s4]
    rcases (show e = 0 ∨ e = 1 by omega) with rfl | rfl
    · rw [if_pos (show nI 0 = 0 from rfl), gm_bs, nI_1]
      refine ⟨_, rfl, ?_, FrC.rf.up.up, fun s' => ?_, fun a c k q => by rw [gu_k q, gu_k q]⟩
      · simp only [if_true]
        exact (C.k (e := 0) rfl hs (by decide) (fun _ => rfl) (fun q => by rw [cs] at q; cases q)).o
      · by_cases q : s' = s
        · rw [q, gu_at]; simp
        · rw [gu_c q, gu_c q]; simp [q]
    · rw [if_neg (show ¬ nI 1 = 0 by decide), gm_bs, nI_1]
      refine ⟨_, rfl, ?_, FrC.rf.up.up, fun s' => ?_, fun a c k q => by rw [gu_k q, gu_k q]⟩
      · simp only [if_true]
        exact (C.k (e := 1) rfl hs (by decide) (fun _ => rfl) (fun q => by rw [cs] at q; cases q)).o
      · by_cases q : s' = s
        · rw [q, gu_at]; simp
        · rw [gu_c q, gu_c q]; simp [q]
theorem c_lift (C : CL G l S) (I : Inv 12 S) (hr : S 80 < 2147483647) {j : Nat} (hj : j < 10) : CS l G (fX1_liftBlock l j G) (sLift S j) := by
  obtain ⟨C, T⟩ := C
  have bk := I.bk hj
  unfold fX1_liftBlock sLift
  simp only [C.b0 hj, bs_l (I.lb j 0) (show 3 < 4294967296 by decide)]
  by_cases c : sB S j 0 = 3
  · have C1 := C.b (j := j) (w := 0) (v := 0) (z := 2) rfl (show (0 : Int32) = nI 0 from rfl) hj (by decide)
    rw [if_pos c, if_pos c]
    obtain ⟨G', e', k1, k2, k3, k4⟩ := c_ra C1 (by rw [su_ne (by omega)]; exact hr) (j := j) (c := 13) (y := 13) rfl
    rw [e', gm_bs]
    refine ⟨G', rfl, ⟨k1, fun s hs => ?_⟩, (FrC.rf.up).tr k2⟩
    rw [k3, gu_k (by decide), T s hs]
    have : sTo (su S (30 + 5 * j + 0) 0) s = sTo S s := by
      unfold sTo
      have e : ∀ j', sOn (su S (30 + 5 * j + 0) 0) j' = sOn S j' := by
        intro j'
        unfold sOn
        by_cases q : j' = j
        · rw [q]
          have : sB (su S (30 + 5 * j + 0) 0) j 0 = 0 := su_at _ _ _
          rw [this, c]
          decide
        · have : sB (su S (30 + 5 * j + 0) 0) j' 0 = sB S j' 0 := su_ne (by omega)
          rw [this]
      rw [e, e, sSg_su (by omega)]
    rw [show sTo (13, sRing (su S (30 + 5 * j + 0) 0) j (sAh j) 13).2 s = sTo S s from (sTo_ring hs).trans this]
  · rw [if_neg c, if_neg c]
    exact ⟨G, rfl, ⟨C, T⟩, FrC.rf⟩
theorem c_refuse (C : CL G l S) (I : Inv 12 S) (hr : S 80 < 2147483647) {j : Nat} (hj : j < 10) : CS l G (fX1_refuse l j G) (sRefuse S j) := by
  obtain ⟨C, T⟩ := C
  unfold fX1_refuse sRefuse
  simp only [C.b1 hj, bs_n6 (I.lb j 1)]
  by_cases c : sB S j 1 = NN
  · rw [if_pos c, if_pos c]
    exact ⟨G, rfl, ⟨C, T⟩, FrC.rf⟩
  · have C1 := C.b (j := j) (w := 1) (v := NN) (z := 3) (x := -6) rfl nI_NN.symm hj (by decide)
    rw [if_neg c, if_neg c]
    obtain ⟨G', e', k1, k2, k3, k4⟩ := c_ra C1 (by rw [su_ne (by omega)]; exact hr) (j := j) (c := 1) (y := 1) rfl
    rw [e', gm_bs]
    refine ⟨G', rfl, ⟨k1, ?_⟩, (FrC.rf.up).tr k2⟩
    exact T.of (fun s => by rw [k3, gu_k (by decide)]) (by dsimp only; rw [ring2, su_ne (by omega)]) (fun j' hj' => by dsimp only; rw [ringB hj']; exact su_ne (by omega))
/-- what the token's flag is after a block's state is set, its section's flag with it -/
theorem to_set (I : Inv M S) {S' : Sm} {G' : Gm} {j : Nat} (T : TO G l S) (hj : j < 10) (h2 : S' 2 = S 2) (hb : ∀ j', j' < 10 → j' ≠ j → sB S' j' 0 = sB S j' 0) (on : Bool) (hon : sOn S' j = on) (hop : sSg S (j / 2) = true → sOn S (sOp j) = false)
    (h4 : ∀ s', G' 4 l s' 5 = if sSg S (j / 2) = true ∧ s' = j / 2 then (if on then 1 else 0) else G 4 l s' 5) : TO G' l S' := by
  intro s hs
  rw [h4]
  have ho : sOp j < 10 := by unfold sOp; omega
  by_cases q : sSg S (j / 2) = true ∧ s = j / 2
  · rw [if_pos q]
    obtain ⟨q1, rfl⟩ := q
    have o2 : sOn S' (sOp j) = false := by
      rw [← hop q1]
      unfold sOn
      rw [hb (sOp j) ho (by unfold sOp; omega)]
    have : sTo S' (j / 2) = on := by
      unfold sTo
      rw [sSg_of h2, q1]
      rcases (show j = 2 * (j / 2) ∨ j = 2 * (j / 2) + 1 by omega) with z | z
      · have e2 : sOp j = 2 * (j / 2) + 1 := by unfold sOp; omega
        rw [← e2, o2, ← z, hon]; simp
      · have e2 : sOp j = 2 * (j / 2) := by unfold sOp; omega
        rw [← e2, o2, e2, ← z, hon]; simp
    rw [this]
  · rw [if_neg q, T s hs]
    have : sTo S' s = sTo S s := by
      unfold sTo
      rw [sSg_of h2]
      cases cs : sSg S s with
      | false => rfl
      | true =>
        have hne : s ≠ j / 2 := fun z => q ⟨z ▸ cs, z⟩
        unfold sOn
        rw [hb (2 * s) (by omega) (by omega), hb (2 * s + 1) (by omega) (by omega)]
    rw [this]
theorem op_off (I : Inv M S) {j : Nat} (hj : j < 10) (h : sOn S j = true) : sSg S (j / 2) = true → sOn S (sOp j) = false := by
  intro q
  have sc := (I.sc (show j / 2 < 5 by omega)).2.2.2.2
  cases ho : sOn S (sOp j) with
  | false => rfl
  | true =>
    exfalso
    apply sc
    rcases (show j = 2 * (j / 2) ∨ j = 2 * (j / 2) + 1 by omega) with z | z
    · have e2 : sOp j = 2 * (j / 2) + 1 := by unfold sOp; omega
      exact ⟨q, by rw [← z]; exact h, by rw [← e2]; exact ho⟩
    · have e2 : sOp j = 2 * (j / 2) := by unfold sOp; omega
      exact ⟨q, by rw [← e2]; exact ho, by rw [← z]; exact h⟩
theorem c_accept (C : CL G l S) (I : Inv 12 S) (hr : S 80 < 2147483647) {j : Nat} (hj : j / 2 + 1 < S 1) : CS l G (fX1_accept l j G) (sAccept S j) := by
  obtain ⟨C, T⟩ := C
  have nn : NN = 4294967290 := rfl
  have bx := I.bx
  have tn := I.tn
  have hj10 : j < 10 := by omega
  have bk := I.bk hj10
  have ha : sAh j < 4294967296 := by unfold sAh; omega
  have ea : nI (j / 2) + 1 - nI (j % 2) = nI (sAh j) := by unfold sAh; rw [nI_1, bs_sub (by omega)]
  unfold fX1_accept sAccept
  rw [C.b1 hj10]
  by_cases c : sB S j 1 = NN
  · rw [c_trn0 C I (fun t ht => by rw [c]; intro q; rw [bs_eq (by decide) (by omega)] at q; omega), gm_bs, if_neg (fun q => q.1 c)]
    exact ⟨G, rfl, ⟨C, T⟩, FrC.rf⟩
  · have ht : sB S j 1 < S 381 := by omega
    rw [c_trn C I ht, gm_bs, gm_els]
    unfold fX0_boxAhead
    rw [gm_bs, ea, c_free C I ha (by omega), gm_bs]
    cases cf : sFr S (sAh j) (j % 2) with
    | false =>
      simp only [Bool.false_eq_true, if_false, if_pos, false_and, and_false]
      exact ⟨G, rfl, ⟨C, T⟩, FrC.rf⟩
    | true =>
      rw [if_pos rfl, if_neg bs_01, c_tk C T I hj, gm_bs]
      cases ck : sTk S j with
      | false =>
        simp only [Bool.false_eq_true, if_false, if_pos, and_false]
        exact ⟨G, rfl, ⟨C, T⟩, FrC.rf⟩
      | true =>
        rw [if_pos rfl, if_neg bs_01, if_pos ⟨c, rfl, rfl⟩]
        unfold fX0_makeClear fX0_rearEnd
        rw [gu_s (show (3 : Nat) ≠ 2 by decide), C.b1 hj10, gm_bs]
        have C3 := ((C.b (j := j) (w := 0) (v := 1) (z := 2) (x := 1) rfl rfl hj10 (by decide)).b (j := j) (w := 2) (v := sB S j 1) (z := 4) rfl rfl hj10 (by decide)).b (j := j) (w := 1) (v := NN) (z := 3) (x := -6) rfl nI_NN.symm hj10 (by decide)
        have es : su (su (su S (30 + 5 * j + 0) 1) (30 + 5 * j + 2) (sB S j 1)) (30 + 5 * j + 1) NN = su (su (su S (30 + 5 * j + 1) NN) (30 + 5 * j + 0) 1) (30 + 5 * j + 2) (sB S j 1) := by
          funext k
          unfold su
          by_cases k1 : k = 30 + 5 * j + 1
          · rw [if_pos k1, if_neg (by omega), if_neg (by omega), if_pos k1]
          · rw [if_neg k1, if_neg k1]
        rw [es] at C3
        have e8 : su (su (su S (30 + 5 * j + 1) NN) (30 + 5 * j + 0) 1) (30 + 5 * j + 2) (sB S j 1) (8 + 2 * (j / 2) + j % 2) = S (8 + 2 * (j / 2) + j % 2) := by rw [su_ne (by omega), su_ne (by omega), su_ne (by omega)]
        have e2 : su (su (su S (30 + 5 * j + 1) NN) (30 + 5 * j + 0) 1) (30 + 5 * j + 2) (sB S j 1) 2 = S 2 := by rw [su_ne (by omega), su_ne (by omega), su_ne (by omega)]
        have esg : ∀ s, sSg (su (su (su S (30 + 5 * j + 1) NN) (30 + 5 * j + 0) 1) (30 + 5 * j + 2) (sB S j 1)) s = sSg S s := fun s => sSg_of e2
        obtain ⟨G4, g1, g2, g3, g4, g5⟩ := c_take C3 (s := j / 2) (e := j % 2) rfl (by omega) (by omega) (by
          rw [esg, e8]
          intro q
          unfold sTk at ck
          rw [q] at ck
          simp at ck
          exact ck.2.2)
        rw [e8, esg] at g2
        simp only [esg] at g4
        rw [g1, gm_bs, gm_bs]
        have et : G4 5 l (sB S j 1) 1 = nI (sT S (sB S j 1) 0) := by
          rw [g5 5 _ _ (by decide), gu_k (by decide), gu_k (by decide), gu_k (by decide), C.t0 ht]
        rw [et, c_code (I.lq _ _), gm_bs]
        obtain ⟨G', e', k1, k2, k3, k4⟩ := c_ra g2 (by rw [su_ne (by omega), su_ne (by omega), su_ne (by omega), su_ne (by omega)]; exact hr) (j := j) (c := sCo (sT S (sB S j 1) 0)) rfl
        rw [e', gm_bs]
        refine ⟨G', rfl, ⟨k1, ?_⟩, ((FrC.rf.up.up.up).tr g3).tr k2⟩
        refine to_set (on := true) (j := j) I T hj10 (by dsimp only; rw [ring2, su_ne (by omega), e2]) (fun j' h1 h2 => by
          dsimp only
          rw [ringB h1]
          show su _ _ _ _ = _
          rw [su_ne (by omega), su_ne (by omega), su_ne (by omega), su_ne (by omega)]) ?_ ?_ ?_
        · unfold sOn
          have : sB (sRing (su (su (su (su S (30 + 5 * j + 1) NN) (30 + 5 * j + 0) 1) (30 + 5 * j + 2) (sB S j 1)) (8 + 2 * (j / 2) + j % 2) (S (8 + 2 * (j / 2) + j % 2) - if sSg S (j / 2) = true then 1 else 0)) j (sAh j) (sCo (sT S (sB S j 1) 0))) j 0 = 1 := by
            rw [ringB hj10]
            show su _ _ _ _ = _
            rw [su_ne (by omega), su_ne (by omega), su_at]
          rw [this]; rfl
        · intro q
          unfold sTk at ck
          rw [q] at ck
          simp at ck
          unfold sOn
          rw [ck.1]; rfl
        · intro s'
          rw [k3, g4, gu_k (by decide), gu_k (by decide), gu_k (by decide)]
          rfl
end
