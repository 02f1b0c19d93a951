section
variable {S S' R R' : Sm} {M M' k d : Nat}
/-- answering one block -/
theorem an_id {j : Nat} (h : sB S j 1 = NN) : (sAns S j).2 = S := by
  have e : sAccept S j = (NP, S) := by unfold sAccept; rw [if_neg (fun q => q.1 h)]
  rw [an_p (by rw [e])]
  unfold sRefuse
  rw [if_pos h]
theorem an_acc {j : Nat} (hj : j < 10) (h : sB S j 1 ≠ NN ∧ sFr S (sAh j) (j % 2) = true ∧ sTk S j = true) : (∀ j' w, j' < 10 → w < 5 → sB (sAns S j).2 j' w = if j' = j ∧ w = 0 then 1 else if j' = j ∧ w = 1 then NN else if j' = j ∧ w = 2 then sB S j 1 else sB S j' w) ∧ (∀ i, i < 18 → (sAns S j).2 i = if i = 8 + 2 * (j / 2) + j % 2 then S i - (if sSg S (j / 2) then 1 else 0) else S i) := by
  have hn : ¬ (sAccept S j).1 = NP := by
    have nn : NP = 4294967291 := rfl
    unfold sAccept
    rw [if_pos h]
    have : sCo (sT S (sB S j 1) 0) ≤ 41 := by unfold sCo; repeat' (first | decide | split)
    dsimp only; omega
  rw [an_n hn]
  unfold sAccept
  rw [if_pos h]
  dsimp only
  refine ⟨fun j' w hj' hw => ?_, fun i hi => ?_⟩
  · show sRing _ _ _ _ _ = _
    rw [sRing_ne (by omega), su_ne (by omega)]
    by_cases c0 : j' = j ∧ w = 0
    · rw [if_pos c0, su_ne (by omega), c0.1, c0.2, su_at]
    rw [if_neg c0]
    by_cases c1 : j' = j ∧ w = 1
    · rw [if_pos c1, su_ne (by omega), su_ne (by omega), c1.1, c1.2, su_at]
    rw [if_neg c1]
    by_cases c2 : j' = j ∧ w = 2
    · rw [if_pos c2, c2.1, c2.2, su_at]
    · rw [if_neg c2, su_ne (by omega), su_ne (by omega), su_ne (by omega)]
  · rw [sRing_ne (by omega)]
    by_cases e : i = 8 + 2 * (j / 2) + j % 2
    · rw [if_pos e, e, su_at]
    · rw [if_neg e, su_ne e, su_ne (by omega), su_ne (by omega), su_ne (by omega)]
theorem an_ref {j : Nat} (hj : j < 10) (h1 : sB S j 1 ≠ NN) (h : ¬ (sB S j 1 ≠ NN ∧ sFr S (sAh j) (j % 2) = true ∧ sTk S j = true)) : (∀ j' w, j' < 10 → w < 5 → sB (sAns S j).2 j' w = if j' = j ∧ w = 1 then NN else sB S j' w) ∧ (∀ i, i < 18 → (sAns S j).2 i = S i) := by
  have e : sAccept S j = (NP, S) := by unfold sAccept; rw [if_neg h]
  rw [an_p (by rw [e])]
  unfold sRefuse
  rw [if_neg h1]
  dsimp only
  refine ⟨fun j' w hj' hw => ?_, fun i hi => by rw [sRing_ne (by omega), su_ne (by omega)]⟩
  show sRing _ _ _ _ _ = _
  rw [sRing_ne (by omega)]
  by_cases c1 : j' = j ∧ w = 1
  · rw [if_pos c1, c1.1, c1.2, su_at]
  · rw [if_neg c1, su_ne (by omega)]
theorem an_d (c : CI k d S) {j : Nat} (hj : j < 10) (h : sB S j 1 ≠ NN) : j % 2 = d := by
  by_cases e : j % 2 = d
  · exact e
  · exact absurd (c.2.2.1 j hj e).2 h
theorem ci_ans (I : Inv M S) (c : CI k d S) (hd : d < 2) {j : Nat} (hj : j < 10) : CI k d (sAns S j).2 := by
  by_cases h1 : sB S j 1 = NN
  · rw [an_id h1]; exact c
  have jd := an_d c hj h1
  have st := (I.bk hj).2.2.2.2.2.2.1 h1
  have ne : ∀ t, t < S 381 → sT S t 2 = 2 → 2 * sT S t 3 + d ≠ j := by
    intro t ht q z
    have := (c.2.2.2.2 t ht q).1
    rw [z] at this
    omega
  by_cases h : sB S j 1 ≠ NN ∧ sFr S (sAh j) (j % 2) = true ∧ sTk S j = true
  · obtain ⟨hb, hh⟩ := an_acc hj h
    refine c.of (k_ans hj).2.2.1 (fun i hi _ => tq_ans hj i hi) (fun j' hj' => ?_) (fun j' hj' q => ?_) (fun t ht q => ?_)
    · rw [hb j' 3 hj' (by decide), if_neg (by omega), if_neg (by omega), if_neg (by omega)]
    · have e : ¬ j' = j := by rintro rfl; exact q jd
      rw [hb j' 0 hj' (by decide), hb j' 1 hj' (by decide), if_neg (fun z => e z.1), if_neg (fun z => e z.1), if_neg (fun z => e z.1), if_neg (fun z => e z.1), if_neg (fun z => e z.1), if_neg (fun z => e z.1)]
      exact ⟨rfl, rfl⟩
    · have e := ne t ht q
      obtain ⟨r1, r2⟩ := run_lt I c hd ht q
      rw [hb _ 0 r1 (by decide), hb _ 2 r1 (by decide), if_neg (fun z => e z.1), if_neg (fun z => e z.1), if_neg (fun z => e z.1), if_neg (fun z => e z.1), if_neg (fun z => e z.1), if_neg (fun z => e z.1)]
      exact c.2.2.2.2 t ht q
  · obtain ⟨hb, hh⟩ := an_ref hj h1 h
    refine c.of (k_ans hj).2.2.1 (fun i hi _ => tq_ans hj i hi) (fun j' hj' => ?_) (fun j' hj' q => ?_) (fun t ht q => ?_)
    · rw [hb j' 3 hj' (by decide), if_neg (by omega)]
    · have e : ¬ j' = j := by rintro rfl; exact q jd
      rw [hb j' 0 hj' (by decide), hb j' 1 hj' (by decide), if_neg (fun z => e z.1), if_neg (fun z => e z.1)]
      exact ⟨rfl, rfl⟩
    · obtain ⟨r1, r2⟩ := run_lt I c hd ht q
      rw [hb _ 0 r1 (by decide), hb _ 2 r1 (by decide), if_neg (by omega), if_neg (by omega)]
      exact c.2.2.2.2 t ht q
theorem tk_vw (v : Vw S R) {j : Nat} (hj : j < 10) : sTk S j = sTk R j := by
  obtain ⟨v1, v2, v3⟩ := v
  unfold sTk
  rw [sSg_of (v1 2 (by decide) (by decide)), sTo_of (S' := S) (S := R) (v1 2 (by decide) (by decide)) (fun j' hj' => (v2 j' hj').1) (by omega), (v2 (sOp j) (by unfold sOp; omega)).1, v1 (8 + 2 * (j / 2) + j % 2) (by omega) (by omega)]
theorem in_no {j : Nat} (hb : sB S' j 2 = sB S j 1) (ht : Tq S S') (hp : sT S (sB S j 1) 2 = 0) : sIn S' j = false := by
  cases z : sIn S' j with
  | false => rfl
  | true =>
    have := (in_iff.mp z).2.1
    rw [hb, show sT S' (sB S j 1) 2 = sT S (sB S j 1) 2 from ht _ (by omega), hp] at this
    exact absurd this (by decide)
theorem vw_ans (I : Inv M S) (J : Inv M' R) (c : CI k d S) (c' : CI k d R) (v : Vw S R) {j : Nat} (hj : j < 10) : Vw (sAns S j).2 (sAns R j).2 := by
  have fv := fr_vw c c' v (sAh j)
  have tv := tk_vw v hj
  have gv := sg_vw v (j / 2)
  obtain ⟨v1, v2, v3⟩ := v
  obtain ⟨w0, w1, w2, w3⟩ := v2 j hj
  by_cases h1 : sB S j 1 = NN
  · rw [an_id h1, an_id (w1.mp h1)]; exact ⟨v1, v2, v3⟩
  have h1' : ¬ sB R j 1 = NN := fun z => h1 (w1.mpr z)
  have jd := an_d c hj h1
  have at_ : ∀ x, At (sAns S j).2 x ↔ At (sAns R j).2 x := fun x => by
    rw [At.of (k_ans hj).2.2.1 (fun i hi _ => tq_ans hj i hi), At.of (k_ans hj).2.2.1 (fun i hi _ => tq_ans hj i hi)]
    exact v3 x
  by_cases h : sB S j 1 ≠ NN ∧ sFr S (sAh j) (j % 2) = true ∧ sTk S j = true
  · have h' : sB R j 1 ≠ NN ∧ sFr R (sAh j) (j % 2) = true ∧ sTk R j = true := ⟨h1', by rw [jd, ← fv, ← jd]; exact h.2.1, by rw [← tv]; exact h.2.2⟩
    obtain ⟨hb, hh⟩ := an_acc hj h
    obtain ⟨hb', hh'⟩ := an_acc hj h'
    refine ⟨fun i i1 i2 => ?_, fun j' hj' => ?_, at_⟩
    · rw [hh i i2, hh' i i2, v1 i i1 i2, gv]
    · obtain ⟨y0, y1, y2, y3⟩ := v2 j' hj'
      by_cases e : j' = j
      · subst e
        have b2 : sB (sAns S j').2 j' 2 = sB S j' 1 := by rw [hb j' 2 hj' (by decide), if_neg (by omega), if_neg (by omega), if_pos ⟨rfl, rfl⟩]
        have b2' : sB (sAns R j').2 j' 2 = sB R j' 1 := by rw [hb' j' 2 hj' (by decide), if_neg (by omega), if_neg (by omega), if_pos ⟨rfl, rfl⟩]
        rw [in_no b2 (tq_ans hj) ((I.ps hj).1 h1).1, in_no b2' (tq_ans hj) ((J.ps hj).1 h1').1, hb j' 0 hj' (by decide), hb' j' 0 hj' (by decide), hb j' 1 hj' (by decide), hb' j' 1 hj' (by decide), if_pos ⟨rfl, rfl⟩, if_pos ⟨rfl, rfl⟩, if_neg (by omega), if_pos ⟨rfl, rfl⟩, if_neg (by omega), if_pos ⟨rfl, rfl⟩]
        exact ⟨rfl, Iff.rfl, rfl, fun q => by cases q⟩
      · have b : ∀ w, w < 5 → sB (sAns S j).2 j' w = sB S j' w := fun w hw => by rw [hb j' w hj' hw, if_neg (fun z => e z.1), if_neg (fun z => e z.1), if_neg (fun z => e z.1)]
        have b' : ∀ w, w < 5 → sB (sAns R j).2 j' w = sB R j' w := fun w hw => by rw [hb' j' w hj' hw, if_neg (fun z => e z.1), if_neg (fun z => e z.1), if_neg (fun z => e z.1)]
        rw [in_of (b 2 (by decide)) (fun i hi _ => tq_ans hj i hi), in_of (b' 2 (by decide)) (fun i hi _ => tq_ans hj i hi), b 0 (by decide), b 1 (by decide), b 2 (by decide), b' 0 (by decide), b' 1 (by decide), b' 2 (by decide), show sT (sAns S j).2 (sB S j' 2) 4 = _ from tq_ans hj _ (by omega), show sT (sAns R j).2 (sB R j' 2) 4 = _ from tq_ans hj _ (by omega)]
        exact ⟨y0, y1, y2, y3⟩
  · have h' : ¬ (sB R j 1 ≠ NN ∧ sFr R (sAh j) (j % 2) = true ∧ sTk R j = true) := fun z => h ⟨h1, by rw [jd, fv, ← jd]; exact z.2.1, by rw [tv]; exact z.2.2⟩
    obtain ⟨hb, hh⟩ := an_ref hj h1 h
    obtain ⟨hb', hh'⟩ := an_ref hj h1' h'
    refine ⟨fun i i1 i2 => ?_, fun j' hj' => ?_, at_⟩
    · rw [hh i i2, hh' i i2, v1 i i1 i2]
    · obtain ⟨y0, y1, y2, y3⟩ := v2 j' hj'
      have b : ∀ w, w < 5 → w ≠ 1 → sB (sAns S j).2 j' w = sB S j' w := fun w hw q => by rw [hb j' w hj' hw, if_neg (fun z => q z.2)]
      have b' : ∀ w, w < 5 → w ≠ 1 → sB (sAns R j).2 j' w = sB R j' w := fun w hw q => by rw [hb' j' w hj' hw, if_neg (fun z => q z.2)]
      rw [in_of (b 2 (by decide) (by decide)) (fun i hi _ => tq_ans hj i hi), in_of (b' 2 (by decide) (by decide)) (fun i hi _ => tq_ans hj i hi), b 0 (by decide) (by decide), b 2 (by decide) (by decide), b' 0 (by decide) (by decide), b' 2 (by decide) (by decide), show sT (sAns S j).2 (sB S j' 2) 4 = _ from tq_ans hj _ (by omega), show sT (sAns R j).2 (sB R j' 2) 4 = _ from tq_ans hj _ (by omega), hb j' 1 hj' (by decide), hb' j' 1 hj' (by decide)]
      refine ⟨y0, ?_, y2, y3⟩
      by_cases e : j' = j
      · rw [if_pos ⟨e, rfl⟩, if_pos ⟨e, rfl⟩]
      · rw [if_neg (fun z => e z.1), if_neg (fun z => e z.1)]; exact y1
/-- departing: all trains -/
theorem dp_ch (c : CI k d S) (I : Inv M S) (hd : d < 2) : ∀ i, i ≤ S 381 → (∀ q, q < 30 ∨ q = 381 → sIt sDepart S i q = S q) ∧ (∀ j w, j < 10 → w < 5 → sB (sIt sDepart S i) j w = if w = 0 ∧ sB S j 0 = 1 ∧ sB S j 2 < i then 2 else sB S j w) ∧ (∀ t w, w < 8 → (∀ j, j < 10 → sB S j 0 = 1 → sB S j 2 = t → i ≤ t) → sT (sIt sDepart S i) t w = sT S t w) ∧ (∀ j, j < 10 → sB S j 0 = 1 → sB S j 2 < i → sT (sIt sDepart S i) (sB S j 2) 0 = k ∧ sT (sIt sDepart S i) (sB S j 2) 1 = d ∧ sT (sIt sDepart S i) (sB S j 2) 2 = 2 ∧ sT (sIt sDepart S i) (sB S j 2) 3 = j / 2 ∧ sT (sIt sDepart S i) (sB S j 2) 4 = S (3 + j / 2) + k - 1) := by
  have bx := I.bx
  have tn := I.tn
  intro i
  induction i with
  | zero => exact fun _ => ⟨fun _ _ => rfl, fun j w hj hw => by rw [if_neg (by omega)]; rfl, fun t w hw _ => rfl, fun j hj _ q => by omega⟩
  | succ i ih =>
    intro hi
    obtain ⟨h1, h2, h3, h4⟩ := ih (by omega)
    have es : sIt sDepart S (i + 1) = (sDepart (sIt sDepart S i) i).2 := rfl
    rw [es]
    generalize sIt sDepart S i = Z at *
    have ei : ∀ w, w < 8 → sT Z i w = sT S i w := fun w hw => h3 i w hw (fun j _ _ e => Nat.le_refl _)
    have tr := I.tr (t := i) (by omega)
    have ci := c.1 i (by omega)
    have ex : ∀ x e, sNx Z x e = sNx S x e := fun x e => by unfold sNx; rw [h1 1 (by omega)]
    by_cases dep : ∃ j, j < 10 ∧ sB S j 0 = 1 ∧ sB S j 2 = i
    · obtain ⟨j, hj, d1, d2⟩ := dep
      obtain ⟨p1, p2, p3⟩ := (I.ps hj).2 d1
      rw [d2] at p1 p2 p3
      have fj : j + 2 < 2 * S 1 := by
        by_cases z : 2 * (S 1 - 1) ≤ j
        · have := (I.far hj z).2; omega
        · omega
      have nx : sNx S (sT S i 3) (sT S i 1) = some j := nx_of bx.1 (by omega) p2 p3 fj
      have zb0 : sB Z j 0 = 1 := by rw [h2 j 0 hj (by decide), if_neg (by omega)]; exact d1
      have zb2 : sB Z j 2 = i := by rw [h2 j 2 hj (by decide), if_neg (by omega)]; exact d2
      have uniq : ∀ j', j' < 10 → sB S j' 0 = 1 → sB S j' 2 = i → j' = j := by
        intro j' hj' e1 e2
        obtain ⟨u1, u2, u3⟩ := (I.ps hj').2 e1
        rw [e2] at u1 u2 u3
        exact rr_inj (u2.symm.trans p2) (u3.symm.trans p3)
      have ed : (sDepart Z i).2 = sRing (su (su (su (su Z (382 + 8 * i + 2) 2) (382 + 8 * i + 3) (j / 2)) (382 + 8 * i + 4) (Z (3 + j / 2) + sT Z i 0 - 1)) (30 + 5 * j + 0) 2) j (sRr j) 2 := by
        unfold sDepart
        rw [ei 2 (by decide), ei 3 (by decide), ei 1 (by decide), ex, if_pos p1, nx]
        dsimp only
        rw [if_pos ⟨zb0, zb2⟩]
      rw [ed, h1 (3 + j / 2) (by omega), ei 0 (by decide), ci.1]
      refine ⟨fun q hq => ?_, fun j' w hj' hw => ?_, fun t w hw hno => ?_, fun j' hj' e1 e2 => ?_⟩
      · rw [sRing_ne (by omega), su_ne (by omega), su_ne (by omega), su_ne (by omega), su_ne (by omega)]; exact h1 q hq
      · show sRing _ _ _ _ _ = _
        rw [sRing_ne (by omega)]
        by_cases e : j' = j ∧ w = 0
        · obtain ⟨rfl, rfl⟩ := e
          rw [su_at, if_pos ⟨rfl, d1, by omega⟩]
        · rw [su_ne (by omega), su_ne (by omega), su_ne (by omega), su_ne (by omega)]
          refine (h2 j' w hj' hw).trans ?_
          by_cases q : w = 0 ∧ sB S j' 0 = 1 ∧ sB S j' 2 < i
          · rw [if_pos q, if_pos (show w = 0 ∧ sB S j' 0 = 1 ∧ sB S j' 2 < i + 1 from ⟨q.1, q.2.1, by omega⟩)]
          · rw [if_neg q, if_neg]
            rintro ⟨z1, z2, z3⟩
            by_cases z4 : sB S j' 2 = i
            · exact e ⟨uniq j' hj' z2 z4, z1⟩
            · exact q ⟨z1, z2, by omega⟩
      · have ne : t ≠ i := by
          rintro rfl
          have := hno j hj d1 d2
          omega
        show sRing _ _ _ _ _ = _
        rw [sRing_ne (by omega), su_ne (by omega), su_ne (by omega), su_ne (by omega), su_ne (by omega)]
        exact h3 t w hw (fun j' hj' e1 e2 => by have := hno j' hj' e1 e2; omega)
      · by_cases z4 : sB S j' 2 = i
        · have := uniq j' hj' e1 z4
          subst this
          rw [z4]
          have g : ∀ w, w < 8 → sT (sRing (su (su (su (su Z (382 + 8 * i + 2) 2) (382 + 8 * i + 3) (j' / 2)) (382 + 8 * i + 4) (S (3 + j' / 2) + k - 1)) (30 + 5 * j' + 0) 2) j' (sRr j') 2) i w = su (su (su Z (382 + 8 * i + 2) 2) (382 + 8 * i + 3) (j' / 2)) (382 + 8 * i + 4) (S (3 + j' / 2) + k - 1) (382 + 8 * i + w) := fun w hw => by
            show sRing _ _ _ _ _ = _
            rw [sRing_ne (by omega), su_ne (by omega)]
          rw [g 0 (by decide), g 1 (by decide), g 2 (by decide), g 3 (by decide), g 4 (by decide)]
          refine ⟨?_, ?_, ?_, ?_, ?_⟩
          · rw [su_ne (by omega), su_ne (by omega), su_ne (by omega)]; exact (ei 0 (by decide)).trans ci.1
          · rw [su_ne (by omega), su_ne (by omega), su_ne (by omega)]; exact (ei 1 (by decide)).trans ci.2.1
          · rw [su_ne (by omega), su_ne (by omega), su_at]
          · rw [su_ne (by omega), su_at]
          · rw [su_at]
        · have g : ∀ w, w < 8 → sT (sRing (su (su (su (su Z (382 + 8 * i + 2) 2) (382 + 8 * i + 3) (j / 2)) (382 + 8 * i + 4) (S (3 + j / 2) + k - 1)) (30 + 5 * j + 0) 2) j (sRr j) 2) (sB S j' 2) w = sT Z (sB S j' 2) w := fun w hw => by
            show sRing _ _ _ _ _ = _
            rw [sRing_ne (by omega), su_ne (by omega), su_ne (by omega), su_ne (by omega), su_ne (by omega)]
          rw [g 0 (by decide), g 1 (by decide), g 2 (by decide), g 3 (by decide), g 4 (by decide)]
          exact h4 j' hj' e1 (by omega)
    · have ed : (sDepart Z i).2 = Z := by
        unfold sDepart
        rw [ei 2 (by decide), ei 3 (by decide), ei 1 (by decide), ex]
        by_cases p : sT S i 2 = 0
        · rw [if_pos p]
          cases e : sNx S (sT S i 3) (sT S i 1) with
          | none => rfl
          | some j =>
            have nj := m_nxj (by omega) e
            dsimp only
            rw [if_neg]
            rintro ⟨z1, z2⟩
            have j10 : j < 10 := by omega
            have b2 : sB S j 2 = i := by
              rw [h2 j 2 j10 (by decide), if_neg (by omega)] at z2; exact z2
            have b0 : sB S j 0 = 1 := by
              rw [h2 j 0 j10 (by decide), if_neg (by omega)] at z1; exact z1
            exact dep ⟨j, j10, b0, b2⟩
        · rw [if_neg p]
      rw [ed]
      refine ⟨h1, fun j w hj hw => ?_, fun t w hw hno => ?_, fun j hj e1 e2 => ?_⟩
      · refine (h2 j w hj hw).trans ?_
        by_cases q : w = 0 ∧ sB S j 0 = 1 ∧ sB S j 2 < i
        · rw [if_pos q, if_pos (show w = 0 ∧ sB S j 0 = 1 ∧ sB S j 2 < i + 1 from ⟨q.1, q.2.1, by omega⟩)]
        · rw [if_neg q, if_neg]
          rintro ⟨z1, z2, z3⟩
          by_cases z4 : sB S j 2 = i
          · exact dep ⟨j, hj, z2, z4⟩
          · exact q ⟨z1, z2, by omega⟩
      · exact h3 t w hw (fun j' hj' e1 e2 => by have := hno j' hj' e1 e2; omega)
      · have z4 : ¬ sB S j 2 = i := fun z => dep ⟨j, hj, e1, z⟩
        exact h4 j hj e1 (by omega)
end
