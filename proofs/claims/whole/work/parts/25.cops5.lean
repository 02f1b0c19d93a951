section
variable {G : Gm} {S : Sm} {l M : Nat}
theorem c_assist (C : CL G l S) (I : Inv 12 S) (hr : S 80 < 2147483647) {j : Nat} (hj : j < 10) : CS l G (fX1_sendEngine l j G) (sAssist S j) := by
  obtain ⟨C, T⟩ := C
  have bk := I.bk hj
  obtain ⟨s1, s2, s3, s4⟩ := C.sc (show j / 2 < 5 by omega)
  have o4 : (0 : Int32) < nI (sB S j 4) ↔ ¬ sB S j 4 = 0 := by
    rw [show (0 : Int32) = nI 0 from rfl, bs_lt (by decide) (by omega)]; omega
  have e4 : (2 : Int32) * nI (S (3 + j / 2)) = nI (2 * S (3 + j / 2)) := bs_mul 2 _
  unfold fX1_sendEngine sAssist
  simp only [C.b3 hj, C.b4 hj, bs_l (I.lb j 3) (show 0 < 4294967296 by decide), o4, c_ins C I hj, gm_bs, s2, e4]
  by_cases c : sB S j 3 = 0
  · rw [if_pos c, if_neg (fun z => z.1 c)]
    exact ⟨G, rfl, ⟨C, T⟩, FrC.rf⟩
  · rw [if_neg c]
    by_cases c4 : sB S j 4 = 0
    · rw [if_neg (fun z => z c4)]
      cases ci : sIn S j with
      | true =>
        rw [if_pos rfl, gm_els, if_neg (fun z => by cases z.2.1)]
        exact ⟨G, rfl, ⟨C, T⟩, FrC.rf⟩
      | false =>
        rw [if_neg (by decide), gm_eln, if_pos ⟨c, rfl, c4⟩]
        have C1 := C.b (j := j) (w := 4) (v := 2 * S (3 + j / 2)) (z := 6) rfl rfl hj (by decide)
        obtain ⟨G', e', k1, k2, k3, k4⟩ := c_rr C1 (by rw [su_ne (by omega)]; exact hr) (j := j) (c := 22) (y := 22) rfl
        rw [e', gm_bs]
        refine ⟨G', ?_, ⟨k1, ?_⟩, (FrC.rf.up).tr k2⟩
        · show some (G' 0 l j 6, G') = _
          rw [k4 0 j 6 (by decide) (by decide), gu_at]
        · exact T.of (fun s => by rw [k3, gu_k (by decide)]) (by dsimp only; rw [ring2, su_ne (by omega)]) (fun j' hj' => by dsimp only; rw [ringB hj']; exact su_ne (by omega))
    · rw [if_pos c4, if_neg (fun z => c4 z.2.2)]
      exact ⟨G, rfl, ⟨C, T⟩, FrC.rf⟩
theorem c_last (C : CL0 G l S) (I : Inv 12 S) {d : Nat} (hd : d < 2) : fX1_lastBox l (nI d) G = some (nI (sLast S d)) := by
  have bx := I.bx
  unfold fX1_lastBox fX1_firstBox sLast
  rw [C.bx, show (1 : Int32) = nI 1 from rfl, bs_sub (by omega), bs_sub (by omega)]
  simp only [bs_l (show 1 - d < 4294967296 by omega) (show 0 < 4294967296 by decide)]
  rcases (show d = 0 ∨ d = 1 by omega) with rfl | rfl <;> rfl
theorem c_leave (C : CL G l S) (I : Inv 12 S) {t : Nat} (ht : t < S 381) : CS l G (fX1_letLeave l t G) (sLeave S t) := by
  obtain ⟨C, T⟩ := C
  have bx := I.bx
  have tr := I.tr ht
  have hl : sLast S (sT S t 1) < 4294967296 := by unfold sLast; split <;> omega
  unfold fX1_letLeave sLeave
  rw [C.t1 ht, c_last C I (by omega), gm_bs]
  unfold fX5_stands fX5_go
  simp only [C.t2 ht, C.t3 ht, C.t1 ht, bs_l (I.lq t 2) (show 0 < 4294967296 by decide), bs_eq (I.lq t 3) hl, if_true]
  by_cases c : sT S t 2 = 0 ∧ sT S t 3 = sLast S (sT S t 1)
  · rw [if_pos c.1, if_pos c.2, gm_bs, if_neg bs_01, gm_bs, if_pos c]
    have C3 := ((C.t (t := t) (w := 2) (v := 3) (z := 3) (x := 3) rfl rfl (by decide) (by decide)).t (t := t) (w := 3) (v := NN) (z := 4) (x := -6) rfl nI_NN.symm (by decide) (by decide)).t (t := t) (w := 7) (v := S 0) (z := 8) (x := G 1 l 0 7) rfl C.tm (by decide) (by omega)
    refine ⟨_, ?_, ⟨C3, ?_⟩, FrC.rf.up.up.up⟩
    · rw [gu_k (show (1 : Nat) ≠ 5 by decide), gu_k (show (1 : Nat) ≠ 5 by decide), gu_k (show (1 : Nat) ≠ 5 by decide), gu_s (show (7 : Nat) ≠ 8 by decide), gu_s (show (7 : Nat) ≠ 4 by decide), gu_s (show (7 : Nat) ≠ 3 by decide), C.tm, C.t6 ht, bs_sub tr.2.2.2.2.2.2.2.2]
    · refine T.of (fun s => by rw [gu_k (by decide), gu_k (by decide), gu_k (by decide)]) (by dsimp only; rw [su_ne (by omega), su_ne (by omega), su_ne (by omega)]) (fun j' hj' => ?_)
      show su _ _ _ _ = _
      rw [su_ne (by omega), su_ne (by omega), su_ne (by omega)]
  · rw [if_neg c]
    have : (if sT S t 2 = 0 then if sT S t 3 = sLast S (sT S t 1) then some (1 : Int32) else some 0 else some 0) = some 0 := by
      by_cases c1 : sT S t 2 = 0
      · by_cases c2 : sT S t 3 = sLast S (sT S t 1)
        · exact absurd ⟨c1, c2⟩ c
        · rw [if_pos c1, if_neg c2]
      · rw [if_neg c1]
    rw [this, gm_bs, if_pos rfl]
    exact ⟨G, rfl, ⟨C, T⟩, FrC.rf⟩
theorem c_divide (C : CL G l S) (I : Inv 12 S) {t : Nat} (ht : t < S 381) : CS l G (fX1_divideTrain l t G) (sDivide S t) := by
  obtain ⟨C, T⟩ := C
  have bx := I.bx
  have tr := I.tr ht
  unfold fX1_divideTrain sDivide
  simp only [C.t2 ht, C.t3 ht, C.t1 ht, C.t5 ht, bs_l (I.lq t 2) (show 2 < 4294967296 by decide), bs_l (I.lq t 5) (show 0 < 4294967296 by decide)]
  by_cases c : sT S t 2 = 2
  · have h3 := tr.2.2.2.2.2.1 c
    rw [if_pos c, c_blk C I h3 (by omega), gm_bs, gm_els]
    by_cases c5 : sT S t 5 = 0
    · rw [if_pos c5, if_neg (fun z => z.2 c5)]
      exact ⟨G, rfl, ⟨C, T⟩, FrC.rf⟩
    · rw [if_neg c5, if_pos ⟨c, c5⟩]
      have C2 := (C.t (t := t) (w := 5) (v := 0) (z := 6) (x := 0) rfl rfl (by decide) (fun _ => Or.inl rfl)).b (j := 2 * sT S t 3 + sT S t 1) (w := 3) (v := 1) (z := 5) (x := 1) rfl rfl (by omega) (by decide)
      refine ⟨_, ?_, ⟨C2, ?_⟩, FrC.rf.up.up⟩
      · rw [show (2 * sT S t 3 + sT S t 1) / 2 = sT S t 3 by omega]
      · refine T.of (fun s => by rw [gu_k (by decide), gu_k (by decide)]) (by dsimp only; rw [su_ne (by omega), su_ne (by omega)]) (fun j' hj' => ?_)
        show su _ _ _ _ = _
        rw [su_ne (by omega), su_ne (by omega)]
  · rw [if_neg c, if_neg (fun z => c z.1)]
    exact ⟨G, rfl, ⟨C, T⟩, FrC.rf⟩
theorem c_depart (C : CL G l S) (I : Inv 12 S) (hr : S 80 < 2147483647) {t : Nat} (ht : t < S 381) : CS l G (fX1_letDepart l t G) (sDepart S t) := by
  obtain ⟨C, T⟩ := C
  have tn := I.tn
  have bx := I.bx
  have tr := I.tr ht
  unfold fX1_letDepart sDepart
  rw [c_nx C I ht, gm_bs]
  by_cases c : sT S t 2 = 0
  · rw [if_pos c, if_pos c]
    cases e : sNx S (sT S t 3) (sT S t 1) with
    | none => exact ⟨G, by rfl, ⟨C, T⟩, FrC.rf⟩
    | some j =>
      obtain ⟨j1, j2, j3, j4, j5⟩ := m_nxj (by omega) e
      have hj : j < 10 := by omega
      have sc := I.sc (show j / 2 < 5 by omega)
      obtain ⟨s1, s2, s3, s4⟩ := C.sc (show j / 2 < 5 by omega)
      rw [gm_els]
      simp only [C.b0 hj, C.b2 hj, bs_l (I.lb j 0) (show 1 < 4294967296 by decide), bs_eq (I.lb j 2) (show t < 4294967296 by omega)]
      by_cases c1 : sB S j 0 = 1 ∧ sB S j 2 = t
      · rw [if_pos c1.1, if_pos c1.2, if_pos c1]
        unfold fX5_enter
        have ev : nI (S (3 + j / 2)) + nI (sT S t 0) - 1 = nI (S (3 + j / 2) + sT S t 0 - 1) := by
          rw [nI_add, show (1 : Int32) = nI 1 from rfl, bs_sub (by omega)]
        rw [gu_k (show (4 : Nat) ≠ 5 by decide), gu_k (show (4 : Nat) ≠ 5 by decide), gu_k (show (4 : Nat) ≠ 0 by decide), gu_s (show (1 : Nat) ≠ 4 by decide), gu_s (show (1 : Nat) ≠ 3 by decide), gu_k (show (5 : Nat) ≠ 0 by decide), s2, C.t0 ht, ev, gm_bs]
        have C4 := (((C.b (j := j) (w := 0) (v := 2) (z := 2) (x := 2) rfl rfl hj (by decide)).t (t := t) (w := 2) (v := 2) (z := 3) (x := 2) rfl rfl (by decide) (by decide)).t (t := t) (w := 3) (v := j / 2) (z := 4) rfl rfl (by decide) (by omega)).t (t := t) (w := 4) (v := S (3 + j / 2) + sT S t 0 - 1) (z := 5) rfl rfl (by decide) (by omega)
        have es : su (su (su (su S (30 + 5 * j + 0) 2) (382 + 8 * t + 2) 2) (382 + 8 * t + 3) (j / 2)) (382 + 8 * t + 4) (S (3 + j / 2) + sT S t 0 - 1) = su (su (su (su S (382 + 8 * t + 2) 2) (382 + 8 * t + 3) (j / 2)) (382 + 8 * t + 4) (S (3 + j / 2) + sT S t 0 - 1)) (30 + 5 * j + 0) 2 := by
          funext k
          unfold su
          by_cases k1 : k = 30 + 5 * j + 0
          · rw [if_pos k1, if_pos k1, if_neg (by omega), if_neg (by omega), if_neg (by omega)]
          · rw [if_neg k1, if_neg k1]
        rw [es] at C4
        obtain ⟨G', e', k1, k2, k3, k4⟩ := c_rr C4 (by rw [su_ne (by omega), su_ne (by omega), su_ne (by omega), su_ne (by omega)]; exact hr) (j := j) (c := 2) (y := 2) rfl
        rw [e', gm_bs]
        refine ⟨G', ?_, ⟨k1, ?_⟩, (FrC.rf.up.up.up.up).tr k2⟩
        · show some (G' 5 l t 5, G') = _
          rw [k4 5 t 5 (by decide) (by decide), gu_at]
        · have on1 : sOn S j = true := by unfold sOn; rw [c1.1]; rfl
          have to1 : sSg S (j / 2) = true → sTo S (j / 2) = true := by
            intro z
            unfold sTo
            rw [z]
            rcases (show j = 2 * (j / 2) ∨ j = 2 * (j / 2) + 1 by omega) with w | w
            · rw [← w, on1]; rfl
            · rw [← w, on1]; simp
          refine to_set (on := true) (j := j) I T hj (by dsimp only; rw [ring2, su_ne (by omega), su_ne (by omega), su_ne (by omega), su_ne (by omega)]) (fun j' h1 h2 => by
            dsimp only
            rw [ringB h1]
            show su _ _ _ _ = _
            rw [su_ne (by omega), su_ne (by omega), su_ne (by omega), su_ne (by omega)]) ?_ (op_off I hj on1) (fun s' => ?_)
          · unfold sOn
            dsimp only
            rw [ringB hj]
            have : sB (su (su (su (su S (382 + 8 * t + 2) 2) (382 + 8 * t + 3) (j / 2)) (382 + 8 * t + 4) (S (3 + j / 2) + sT S t 0 - 1)) (30 + 5 * j + 0) 2) j 0 = 2 := su_at _ _ _
            rw [this]; rfl
          · rw [k3, gu_k (by decide), gu_k (by decide), gu_k (by decide), gu_k (by decide)]
            by_cases z : sSg S (j / 2) = true ∧ s' = j / 2
            · rw [if_pos z, z.2, T (j / 2) (by omega), to1 z.1]
            · rw [if_neg z]
      · rw [if_neg c1]
        have : ∀ (A : Option (Int32 × Gm)), (if sB S j 0 = 1 then if sB S j 2 = t then A else some (-5, G) else some (-5, G)) = some (-5, G) := by
          intro A
          by_cases z1 : sB S j 0 = 1
          · by_cases z2 : sB S j 2 = t
            · exact absurd ⟨z1, z2⟩ c1
            · rw [if_pos z1, if_neg z2]
          · rw [if_neg z1]
        rw [this]
        exact ⟨G, rfl, ⟨C, T⟩, FrC.rf⟩
  · rw [if_neg c, if_neg c]
    exact ⟨G, rfl, ⟨C, T⟩, FrC.rf⟩
theorem c_hb (C : CL0 G l S) (I : Inv 12 S) {x : Nat} (hx : x < S 1) : fX1_hasBox l (nI x) G = some 1 := by
  have bx := I.bx
  unfold fX1_hasBox
  rw [if_neg (by rw [bs_neg (by omega)]; omega), C.bx, if_neg (by rw [bs_le (by omega) (by omega)]; omega)]
theorem c_dir {d : Nat} (hd : d < 2) : fX6_isDirection (nI d) = some 1 := by
  rcases (show d = 0 ∨ d = 1 by omega) with rfl | rfl <;> rfl
theorem c_shunt (C : CL G l S) (I : Inv 12 S) {t : Nat} (ht : t < S 381) : CS l G (fX1_shuntTrain l t G) (sShunt S t) := by
  obtain ⟨C, T⟩ := C
  have tn := I.tn
  have bx := I.bx
  have tr := I.tr ht
  have nop : CS l G (some ((-5 : Int32), G)) (NP, S) := ⟨G, rfl, ⟨C, T⟩, FrC.rf⟩
  unfold fX1_shuntTrain sShunt
  simp only [C.t2 ht, bs_l (I.lq t 2) (show 0 < 4294967296 by decide), bs_l (I.lq t 2) (show 1 < 4294967296 by decide)]
  by_cases c : sT S t 2 = 0
  · have hw := tr.2.2.2.2.1 (by omega)
    have e18 : (2 : Int32) * nI (sT S t 3) + nI (sT S t 1) = nI (2 * sT S t 3 + sT S t 1) := by simp only [bs_nat, bs_mul, nI_add]
    have hle := sCn_le S (sT S t 3) (sT S t 1) 1 (S 381)
    have lp := I.lp (show 2 * sT S t 3 + sT S t 1 < 12 by omega)
    have ek := C.2.2.1 (2 * sT S t 3 + sT S t 1) (by omega)
    rw [← Nat.add_assoc] at ek lp
    have elt : nI (sCn S (sT S t 3) (sT S t 1) 1 (S 381)) < nI (S (18 + 2 * sT S t 3 + sT S t 1)) ↔ sCn S (sT S t 3) (sT S t 1) 1 (S 381) < S (18 + 2 * sT S t 3 + sT S t 1) := bs_lt (by omega) (by omega)
    have tail : CS l G ((fX1_hasBox l (nI (sT S t 3)) G).bind fun q3 => if q3 = 0 then some (-5, G) else (fX6_isDirection (nI (sT S t 1))).bind fun q5 => if q5 = 0 then some (-5, G) else gm_gi ((2 * nI (sT S t 3)) + nI (sT S t 1)) 12 fun z7 => (fX1_trainsStanding l 1 (nI (sT S t 3)) (nI (sT S t 1)) G).bind fun q8 => if q8 < G 8 l 0 z7 then (fX5_standAt l t 1 (nI (sT S t 3)) G).bind fun q10 => some (1, q10) else some (-5, G))
        (if sCn S (sT S t 3) (sT S t 1) 1 (S 381) < S (18 + 2 * sT S t 3 + sT S t 1) then (1, su S (382 + 8 * t + 2) 1) else (NP, S)) := by
      rw [c_hb C I hw, gm_bs, if_neg bs_01, c_dir (by omega), gm_bs, if_neg bs_01, e18, gm_gin (by omega) (by decide), c_many (y := 1) (p := 1) C I rfl (I.lq t 3) (I.lq t 1) (by decide), gm_bs, ek]
      simp only [elt]
      by_cases z : sCn S (sT S t 3) (sT S t 1) 1 (S 381) < S (18 + 2 * sT S t 3 + sT S t 1)
      · rw [if_pos z, if_pos z]
        unfold fX5_standAt
        rw [gm_bs]
        have C2 := (C.t (t := t) (w := 2) (v := 1) (z := 3) (x := 1) rfl rfl (by decide) (by decide)).t (t := t) (w := 3) (v := sT S t 3) (z := 4) rfl rfl (by decide) (by omega)
        have es : su (su S (382 + 8 * t + 2) 1) (382 + 8 * t + 3) (sT S t 3) = su S (382 + 8 * t + 2) 1 := by
          funext k
          unfold su
          by_cases k1 : k = 382 + 8 * t + 3
          · rw [if_pos k1, if_neg (by omega), k1]
          · rw [if_neg k1]
        rw [es] at C2
        refine ⟨_, rfl, ⟨C2, ?_⟩, FrC.rf.up.up⟩
        exact T.of (fun s => by rw [gu_k (by decide), gu_k (by decide)]) (by dsimp only; rw [su_ne (by omega)]) (fun j' hj' => su_ne (by omega))
      · rw [if_neg z, if_neg z]
        exact nop
    rw [if_pos c, if_pos c]
    unfold fX1_shuntToLoop
    rw [c_nx C I ht, if_pos c, gm_bs, C.t3 ht, C.t1 ht]
    have bq : ∀ (A : Option (Int32 × Gm)) (q : Nat × Sm), CS l G A q → CS l G (A.bind fun q2 => some (q2.1, q2.2)) q := by
      rintro A q ⟨G', e, h1, h2⟩
      exact ⟨G', by rw [e]; rfl, h1, h2⟩
    apply bq
    unfold sHeld
    cases e : sNx S (sT S t 3) (sT S t 1) with
    | none =>
      rw [gm_eln]
      simp only [true_and]
      exact tail
    | some j =>
      obtain ⟨j1, j2, j3, j4, j5⟩ := m_nxj (by omega) e
      have hj : j < 10 := by omega
      rw [gm_els]
      simp only [C.b0 hj, C.b1 hj, C.b2 hj, bs_l (I.lb j 0) (show 1 < 4294967296 by decide), bs_eq (I.lb j 1) (show t < 4294967296 by omega), bs_eq (I.lb j 2) (show t < 4294967296 by omega)]
      by_cases c1 : sB S j 1 = t
      · simp only [if_pos c1, c1, true_or, decide_true, Bool.true_eq_false, false_and, if_false]
        exact nop
      · rw [if_neg c1]
        by_cases c2 : sB S j 0 = 1
        · rw [if_pos c2]
          by_cases c3 : sB S j 2 = t
          · simp only [if_pos c3, c1, c2, c3, and_self, or_true, decide_true, Bool.true_eq_false, false_and, if_false]
            exact nop
          · rw [if_neg c3]
            simp only [c1, c3, and_false, or_self, decide_false, true_and]
            exact tail
        · rw [if_neg c2]
          simp only [c1, c2, false_and, or_self, decide_false, true_and]
          exact tail
  · rw [if_neg c, if_neg c]
    by_cases c1 : sT S t 2 = 1
    · have hw := tr.2.2.2.2.1 (by omega)
      rw [if_pos c1, if_pos c1]
      unfold fX1_shuntBack
      rw [c_bt C I ht (by omega), gm_bs]
      simp only [C.t3 ht, C.t1 ht, c_free C I (I.lq t 3) (I.lq t 1), gm_bs]
      have bq : ∀ (A : Option (Int32 × Gm)) (q : Nat × Sm), CS l G A q → CS l G (A.bind fun q2 => some (q2.1, q2.2)) q := by
        rintro A q ⟨G', e, h1, h2⟩
        exact ⟨G', by rw [e]; rfl, h1, h2⟩
      apply bq
      have tail : CS l G (if (if sFr S (sT S t 3) (sT S t 1) = true then (1 : Int32) else 0) = 0 then some (-5, G) else (fX5_standAt l t 0 (nI (sT S t 3)) G).bind fun q6 => some (0, q6)) (if sFr S (sT S t 3) (sT S t 1) = true then (0, su S (382 + 8 * t + 2) 0) else (NP, S)) := by
        cases cf : sFr S (sT S t 3) (sT S t 1) with
        | false => simp only [Bool.false_eq_true, if_false, if_pos]; exact nop
        | true =>
          simp only [if_true, if_neg bs_01]
          unfold fX5_standAt
          rw [gm_bs]
          have C2 := (C.t (t := t) (w := 2) (v := 0) (z := 3) (x := 0) rfl rfl (by decide) (by decide)).t (t := t) (w := 3) (v := sT S t 3) (z := 4) rfl rfl (by decide) (by omega)
          have es : su (su S (382 + 8 * t + 2) 0) (382 + 8 * t + 3) (sT S t 3) = su S (382 + 8 * t + 2) 0 := by
            funext k
            unfold su
            by_cases k1 : k = 382 + 8 * t + 3
            · rw [if_pos k1, if_neg (by omega), k1]
            · rw [if_neg k1]
          rw [es] at C2
          refine ⟨_, rfl, ⟨C2, ?_⟩, FrC.rf.up.up⟩
          exact T.of (fun s => by rw [gu_k (by decide), gu_k (by decide)]) (by dsimp only; rw [su_ne (by omega)]) (fun j' hj' => su_ne (by omega))
      unfold sCalm
      cases e : sBt S (sT S t 3) (sT S t 1) with
      | none =>
        rw [gm_eln]
        simp only [and_true]
        exact tail
      | some j =>
        obtain ⟨j1, j2, j3, j4, j5⟩ := m_btj (by omega) e
        have hj : j < 10 := by omega
        rw [gm_els]
        simp only [C.b0 hj, bs_l (I.lb j 0) (show 0 < 4294967296 by decide), bs_l (I.lb j 0) (show 3 < 4294967296 by decide)]
        by_cases z1 : sB S j 0 = 0
        · rw [if_pos z1]
          simp only [z1, true_or, decide_true, and_true]
          exact tail
        · rw [if_neg z1]
          by_cases z2 : sB S j 0 = 3
          · rw [if_pos z2]
            simp only [z2, or_true, decide_true, and_true]
            exact tail
          · rw [if_neg z2]
            simp only [z1, z2, or_self, decide_false, Bool.false_eq_true, and_false, if_false]
            exact nop
    · rw [if_neg c1, if_neg c1]
      exact nop
end
