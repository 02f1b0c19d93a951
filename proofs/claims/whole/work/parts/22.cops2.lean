section
variable {G : Gm} {S : Sm} {l M : Nat}
theorem c_many_h (C : CL0 G l S) (I : Inv 12 S) (x d p : Nat) (hx : x < 4294967296) (hd : d < 4294967296) (hp : p < 4294967296) :
    ∀ m i f : Nat, i + m = S 381 → m < f → fX1_trainsStanding_h6 l (nI p) (nI x) (nI d) G f (nI (sCn S x d p i)) (nI i) = some (nI (sCn S x d p (S 381))) := by
  have tn := I.tn
  intro m
  induction m with
  | zero =>
    intro i f hi hf
    obtain ⟨f, rfl⟩ : ∃ g, f = g + 1 := ⟨f - 1, by omega⟩
    rw [fX1_trainsStanding_h6.eq_2, C.ap, if_pos ((bs_le (by omega) (by omega)).mpr (by omega)), show i = S 381 from by omega]
  | succ m ih =>
    intro i f hi hf
    obtain ⟨f, rfl⟩ : ∃ g, f = g + 1 := ⟨f - 1, by omega⟩
    have hiS : i < S 381 := by omega
    rw [fX1_trainsStanding_h6.eq_2, C.ap, if_neg (by rw [bs_le (by omega) (by omega)]; omega), gm_gin (by omega) (by decide)]
    unfold fX5_stands
    simp only [C.t2 hiS, C.t3 hiS, C.t1 hiS, bs_eq (I.lq i 2) hp, bs_eq (I.lq i 3) hx, bs_eq (I.lq i 1) hd]
    have e1 : sCn S x d p (i + 1) = sCn S x d p i + (if sT S i 2 = p ∧ sT S i 3 = x ∧ sT S i 1 = d then 1 else 0) := rfl
    have ih1 := ih (i + 1) f (by omega) (by omega)
    rw [← nI_1 i] at ih1
    by_cases c : sT S i 2 = p ∧ sT S i 3 = x ∧ sT S i 1 = d
    · rw [e1, if_pos c, ← nI_1] at ih1
      rw [if_pos c.1, if_pos c.2.1, if_pos c.2.2, gm_bs, if_neg bs_01]
      exact ih1
    · rw [e1, if_neg c, Nat.add_zero] at ih1
      have : (if sT S i 2 = p then if sT S i 3 = x then if sT S i 1 = d then some (1 : Int32) else some 0 else some 0 else some 0) = some 0 := by
        by_cases c1 : sT S i 2 = p
        · by_cases c2 : sT S i 3 = x
          · by_cases c3 : sT S i 1 = d
            · exact absurd ⟨c1, c2, c3⟩ c
            · rw [if_pos c1, if_pos c2, if_neg c3]
          · rw [if_pos c1, if_neg c2]
        · rw [if_neg c1]
      rw [this, gm_bs, if_pos rfl]
      exact ih1
theorem c_many (C : CL0 G l S) (I : Inv 12 S) {x d p : Nat} {y : Int32} (hy : y = nI p) (hx : x < 4294967296) (hd : d < 4294967296) (hp : p < 4294967296) : fX1_trainsStanding l y (nI x) (nI d) G = some (nI (sCn S x d p (S 381))) := by
  have tn := I.tn
  rw [hy]
  exact c_many_h C I x d p hx hd hp (S 381) 0 6000 (by omega) (by omega)
theorem c_free (C : CL0 G l S) (I : Inv 12 S) {x d : Nat} (hx : x < 4294967296) (hd : d < 4294967296) : fX1_isLineFree l (nI x) (nI d) G = some (if sFr S x d then 1 else 0) := by
  have tn := I.tn
  have hle := sCn_le S x d 0 (S 381)
  unfold fX1_isLineFree
  rw [c_many (y := 0) (p := 0) C I rfl hx hd (by decide), gm_bs]
  have e := sCn_0 S x d 0 (S 381)
  unfold sFr
  by_cases c : ∀ t, t < S 381 → ¬ (sT S t 2 = 0 ∧ sT S t 3 = x ∧ sT S t 1 = d)
  · rw [if_pos (by rw [e.mpr c]; rfl), if_pos (decide_eq_true c)]
  · rw [if_neg (by rw [bs_l (by omega) (by decide)]; exact fun q => c (e.mp q)), if_neg (by rw [decide_eq_true_iff]; exact c)]
theorem c_nx (C : CL0 G l S) (I : Inv 12 S) {t : Nat} (ht : t < S 381) : fX1_nextBlock l t G = some (if sT S t 2 = 0 then sNx S (sT S t 3) (sT S t 1) else none) := by
  have tn := I.tn
  have bx := I.bx
  have tr := I.tr ht
  unfold fX1_nextBlock
  simp only [C.t2 ht, C.t3 ht, C.t1 ht, bs_l (I.lq t 2) (show 0 < 4294967296 by decide)]
  by_cases c : sT S t 2 = 0
  · rw [if_pos c, if_pos c]
    have hw := tr.2.2.2.2.1 (by omega)
    unfold sNx
    by_cases q : sT S t 1 ≤ sT S t 3 ∧ sT S t 3 - sT S t 1 + 1 < S 1
    · rw [if_pos q, bs_sub q.1, c_blk C I q.2 (by omega), gm_bs]
      rfl
    · rw [if_neg q, c_blk0 C I, gm_bs]
      · rfl
      · rintro s d hs hd ⟨e1, e2⟩
        have : nI (sT S t 3) = nI (s + sT S t 1) := by
          rw [← nI_add, ← e1, Int32.sub_add_cancel]
        rw [bs_eq (by omega) (by omega)] at this
        exact q ⟨by omega, by omega⟩
  · rw [if_neg c, if_neg c]
theorem c_bt (C : CL0 G l S) (I : Inv 12 S) {t : Nat} (ht : t < S 381) (h1 : sT S t 2 ≤ 1) : fX1_blockTo l (G 5 l t 4) (G 5 l t 2) G = some (sBt S (sT S t 3) (sT S t 1)) := by
  have tn := I.tn
  have bx := I.bx
  have tr := I.tr ht
  have hw := tr.2.2.2.2.1 h1
  have hd : sT S t 1 < 2 := by omega
  unfold fX1_blockTo
  rw [C.t3 ht, C.t1 ht]
  cases e : sBt S (sT S t 3) (sT S t 1) with
  | none =>
    rw [c_blk0 C I, gm_bs]
    · rfl
    · rintro s d hs hd' ⟨q, -⟩
      have q2 : nI (sT S t 3 + sT S t 1) = nI (s + 1) := by
        rw [← nI_add, ← nI_add, ← q, show nI 1 = 1 from rfl]
        rw [Int32.add_comm (nI (sT S t 3) - 1), Int32.add_assoc, Int32.sub_add_cancel, Int32.add_comm]
      rw [bs_eq (by omega) (by omega)] at q2
      unfold sBt at e
      rw [if_pos ⟨by omega, by omega⟩] at e
      cases e
  | some j =>
    obtain ⟨j1, j2, j3, j4, j5⟩ := m_btj hd e
    have eq : nI (sT S t 3) - 1 + nI (sT S t 1) = nI (j / 2) := by
      rw [j2]
      by_cases z : sT S t 3 = 0
      · have d1 : sT S t 1 = 1 := by omega
        rw [z, d1]; rfl
      · rw [show (1 : Int32) = nI 1 from rfl, bs_sub (by omega), nI_add]
        congr 1
        omega
    rw [eq, c_blk C I (by omega) hd, gm_bs, show 2 * (j / 2) + sT S t 1 = j by omega]
    rfl
theorem c_ins (C : CL0 G l S) (I : Inv 12 S) {j : Nat} (hj : j < 10) : fX1_trainInside l j G = some (if sIn S j then some (sB S j 2) else none) := by
  have nn : NN = 4294967290 := rfl
  have bk := I.bk hj
  have tn := I.tn
  have ps := (I.ps hj).2
  unfold fX1_trainInside sIn
  simp only [C.b0 hj, C.b2 hj, bs_l (I.lb j 0) (show 2 < 4294967296 by decide)]
  by_cases c : sB S j 2 = NN
  · have h0 : ¬ sB S j 0 = 2 := by
      have := bk.2.2.2.2.2.2.2.mp c
      omega
    rw [if_neg h0, if_neg (by rw [decide_eq_true_iff]; exact fun q => q.1 c)]
  · have ht : sB S j 2 < S 381 := by omega
    by_cases h2 : sB S j 0 = 2
    · rw [if_pos h2, c_trn C I ht, gm_bs]
      show (if G 5 l (sB S j 2) 3 = 2 then _ else _) = _
      simp only [C.t2 ht, C.t3 ht, bs_l (I.lq (sB S j 2) 2) (show 2 < 4294967296 by decide), bs_eq (I.lq (sB S j 2) 3) (show j / 2 < 4294967296 by omega)]
      by_cases c1 : sT S (sB S j 2) 2 = 2 <;> by_cases c2 : sT S (sB S j 2) 3 = j / 2 <;> simp [c, c1, c2]
    · have h1 : sB S j 0 = 1 := by
        have := mt bk.2.2.2.2.2.2.2.mpr c
        omega
      have := ps h1
      rw [if_neg h2, if_neg]
      rw [decide_eq_true_iff]
      intro q
      omega
theorem c_tk (C : CL0 G l S) (T : TO G l S) (I : Inv 12 S) {j : Nat} (hj : j / 2 + 1 < S 1) : fX1_isTokenReady l j G = some (if sTk S j then 1 else 0) := by
  have bx := I.bx
  obtain ⟨s1, s2, s3, s4⟩ := C.sc (show j / 2 < 5 by omega)
  have t1 := T (j / 2) (by omega)
  have sc := (I.sc (show j / 2 < 5 by omega)).2.2.1
  have e1 : (1 : Int32) - nI (j % 2) = nI (1 - j % 2) := by rw [show (1 : Int32) = nI 1 from rfl, bs_sub (by omega)]
  have ho : 2 * (j / 2) + (1 - j % 2) = sOp j := rfl
  unfold fX1_isTokenReady sTk
  rw [s1, t1]
  cases cs : sSg S (j / 2) with
  | false => simp
  | true =>
    rw [cs] at s3 s4
    simp only [if_true] at s3 s4
    rw [if_pos rfl, if_neg bs_01, e1, c_blk C I hj (by omega), gm_bs, ho]
    show (if G 0 l (sOp j) 2 = 0 then _ else _) = _
    rw [C.b0 (show sOp j < 10 by unfold sOp; omega)]
    simp only [bs_l (I.lb (sOp j) 0) (show 0 < 4294967296 by decide)]
    unfold fX0_rearEnd fX4_hasToken
    rw [gm_bs, s3, s4]
    simp only [bs_l (show j % 2 < 4294967296 by omega) (show 0 < 4294967296 by decide)]
    have key : (if j % 2 = 0 then (if nI (S (8 + 2 * (j / 2))) ≤ 0 then some (0 : Int32) else some 1) else (if nI (S (8 + 2 * (j / 2) + 1)) ≤ 0 then some 0 else some 1)) = some (if 0 < S (8 + 2 * (j / 2) + j % 2) then 1 else 0) := by
      rcases (show j % 2 = 0 ∨ j % 2 = 1 by omega) with q | q
      · rw [q, if_pos rfl, Nat.add_zero]
        have : nI (S (8 + 2 * (j / 2))) ≤ 0 ↔ ¬ 0 < S (8 + 2 * (j / 2)) := by rw [show (0 : Int32) = nI 0 from rfl, bs_le (by omega) (by decide)]; omega
        simp only [this]
        by_cases z : 0 < S (8 + 2 * (j / 2)) <;> simp [z]
      · rw [q, if_neg (by decide)]
        have : nI (S (8 + 2 * (j / 2) + 1)) ≤ 0 ↔ ¬ 0 < S (8 + 2 * (j / 2) + 1) := by rw [show (0 : Int32) = nI 0 from rfl, bs_le (by omega) (by decide)]; omega
        simp only [this]
        by_cases z : 0 < S (8 + 2 * (j / 2) + 1) <;> simp [z]
    rw [key, gm_bs]
    cases ct : sTo S (j / 2) <;> by_cases c1 : sB S (sOp j) 0 = 0 <;> by_cases c3 : 0 < S (8 + 2 * (j / 2) + j % 2) <;> simp [c1, c3]
theorem c_code {k : Nat} (hk : k < 4294967296) : fX6_offerCode (nI k) = some (nI (sCo k)) := by
  unfold fX6_offerCode sCo
  simp only [bs_l hk (show 1 < 4294967296 by decide), bs_l hk (show 2 < 4294967296 by decide), bs_l hk (show 3 < 4294967296 by decide), bs_l hk (show 4 < 4294967296 by decide)]
  repeat' (first | rfl | split)
/-- no state changes: the tokens stay out or in -/
theorem TO.of {S' : Sm} {G' : Gm} (T : TO G l S) (h4 : ∀ s, G' 4 l s 5 = G 4 l s 5) (h2 : S' 2 = S 2) (hb : ∀ j, j < 10 → sB S' j 0 = sB S j 0) : TO G' l S' := by
  intro s hs
  rw [h4, T s hs, sTo_of h2 hb hs]
theorem c_offer (C : CL G l S) (I : Inv 12 S) (hr : S 80 < 2147483647) {t : Nat} (ht : t < S 381) : CS l G (fX1_offerTrain l t G) (sOffer S t) := by
  obtain ⟨C, T⟩ := C
  have tn := I.tn
  have bx := I.bx
  have tr := I.tr ht
  unfold fX1_offerTrain sOffer
  rw [c_nx C I ht, gm_bs]
  by_cases c : sT S t 2 = 0
  · rw [if_pos c, if_pos c]
    cases e : sNx S (sT S t 3) (sT S t 1) with
    | none => exact ⟨G, by rfl, ⟨C, T⟩, FrC.rf⟩
    | some j =>
      obtain ⟨j1, j2, j3, j4, j5⟩ := m_nxj (by omega) e
      have hj : j < 10 := by omega
      show CS l G (if G 0 l j 2 = 0 then _ else _) _
      simp only [C.b0 hj, C.b1 hj, bs_l (I.lb j 0) (show 0 < 4294967296 by decide), bs_n6 (I.lb j 1)]
      by_cases c1 : sB S j 0 = 0
      · by_cases c2 : sB S j 1 = NN
        · have C1 := C.b (j := j) (w := 1) (v := t) (z := 3) rfl rfl hj (by decide)
          rw [if_pos c1, if_pos c2, if_pos ⟨c1, c2⟩, gu_k (by decide), C.t0 ht, c_code (I.lq t 0), gm_bs]
          obtain ⟨G', e', k1, k2, k3, k4⟩ := c_rr C1 (by rw [su_ne (by omega)]; exact hr) (j := j) (c := sCo (sT S t 0)) rfl
          rw [e', gm_bs]
          refine ⟨G', rfl, ⟨k1, ?_⟩, (FrC.rf.up).tr k2⟩
          refine T.of (fun s => by rw [k3, gu_k (by decide)]) (by dsimp only; rw [ring2, su_ne (by omega)]) (fun j' hj' => ?_)
          dsimp only
          rw [ringB hj']
          exact su_ne (by omega)
        · rw [if_pos c1, if_neg c2, if_neg (fun q => c2 q.2)]
          exact ⟨G, rfl, ⟨C, T⟩, FrC.rf⟩
      · rw [if_neg c1, if_neg (fun q => c1 q.1)]
        exact ⟨G, rfl, ⟨C, T⟩, FrC.rf⟩
  · rw [if_neg c, if_neg c]
    exact ⟨G, rfl, ⟨C, T⟩, FrC.rf⟩
end
