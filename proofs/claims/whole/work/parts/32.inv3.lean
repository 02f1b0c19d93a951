section
variable {S S' : Sm} {M : Nat}
/-- which block a train at a box offers to -/
theorem rr_inj {j j' : Nat} (h1 : sRr j = sRr j') (h2 : j % 2 = j' % 2) : j = j' := by
  unfold sRr at h1
  omega
/-- one train changes, no block -/
theorem i_trn (I : Inv M S) {t : Nat} (ht : t < S 381) (hlt : ∀ k, S' k < 4294967296) (h : ∀ i, ¬ (382 + 8 * t ≤ i ∧ i ≤ 382 + 8 * t + 7) → S' i = S i) (htr : TR S' t) (hp : ∀ j, j < 10 → (sB S j 1 = t → False) ∧ (sB S j 0 = 1 → sB S j 2 = t → False) ∨ (sT S' t 2 = sT S t 2 ∧ sT S' t 3 = sT S t 3 ∧ sT S' t 1 = sT S t 1)) : Inv M S' := by
  have tn := I.tn
  have hB : ∀ j w, j < 10 → w < 5 → sB S' j w = sB S j w := fun j w hj hw => h _ (by omega)
  have hT : ∀ t' w, t' ≠ t → w < 8 → sT S' t' w = sT S t' w := fun t' w q hw => h _ (by omega)
  have e2 : S' 2 = S 2 := h 2 (by omega)
  have en : S' 381 = S 381 := h _ (by omega)
  refine I.mk' hlt (h _ (by omega)) e2 en (fun s _ => h _ (by omega)) (fun k _ => h _ (by omega)) (fun s hs => ?_) (fun j hj => ?_) (fun t' ht' => ?_) (fun j hj => ?_) (fun j hj _ => ⟨hB j 1 hj (by decide), hB j 0 hj (by decide)⟩)
  · have sc := I.sc hs
    unfold TK sTo sOn
    rw [h (8 + 2 * s) (by omega), h (8 + 2 * s + 1) (by omega), sSg_of e2, hB (2 * s) 0 (by omega) (by decide), hB (2 * s + 1) 0 (by omega) (by decide)]
    exact sc.2.2
  · unfold BK
    rw [hB j 0 hj (by decide), hB j 1 hj (by decide), hB j 2 hj (by decide), hB j 3 hj (by decide), hB j 4 hj (by decide), en]
    exact I.bk hj
  · by_cases q : t' = t
    · rw [q]; exact htr
    · unfold TR
      rw [hT t' 0 q (by decide), hT t' 1 q (by decide), hT t' 2 q (by decide), hT t' 3 q (by decide), hT t' 4 q (by decide), hT t' 5 q (by decide), hT t' 6 q (by decide), h 1 (by omega), h 0 (by omega)]
      exact I.tr ht'
  · have ps := I.ps hj
    unfold PS
    rw [hB j 0 hj (by decide), hB j 1 hj (by decide), hB j 2 hj (by decide)]
    refine ⟨fun q => ?_, fun q => ?_⟩
    · have p1 := ps.1 q
      by_cases z : sB S j 1 = t
      · rcases hp j hj with r | r
        · exact absurd z r.1
        · rw [z] at p1 ⊢
          rw [r.1, r.2.1, r.2.2]; exact p1
      · rw [hT _ 2 z (by decide), hT _ 3 z (by decide), hT _ 1 z (by decide)]; exact p1
    · have p1 := ps.2 q
      by_cases z : sB S j 2 = t
      · rcases hp j hj with r | r
        · exact absurd z (r.2 q)
        · rw [z] at p1 ⊢
          rw [r.1, r.2.1, r.2.2]; exact p1
      · rw [hT _ 2 z (by decide), hT _ 3 z (by decide), hT _ 1 z (by decide)]; exact p1
theorem i_leave (I : Inv M S) {t : Nat} (ht : t < S 381) : Inv M (sLeave S t).2 := by
  have bx := I.bx
  have tr := I.tr ht
  have nn : NN = 4294967290 := rfl
  unfold sLeave
  split
  · rename_i c
    have r2 : sT (su (su (su S (382 + 8 * t + 2) 3) (382 + 8 * t + 3) NN) (382 + 8 * t + 7) (S 0)) t 2 = 3 := by
      show su _ _ _ _ = _
      rw [su_ne (by omega), su_ne (by omega), su_at]
    have ro : ∀ w, w < 8 → w ≠ 2 → w ≠ 3 → w ≠ 7 → sT (su (su (su S (382 + 8 * t + 2) 3) (382 + 8 * t + 3) NN) (382 + 8 * t + 7) (S 0)) t w = sT S t w := by
      intro w h1 h2 h3 h4
      show su _ _ _ _ = _
      rw [su_ne (by omega), su_ne (by omega), su_ne (by omega)]
    dsimp only
    refine i_trn I ht (su_lt (su_lt (su_lt I.1 (by decide)) (by decide)) (I.1 0)) (fun i q => by rw [su_ne (by omega), su_ne (by omega), su_ne (by omega)]) ?_ (fun j hj => Or.inl ?_)
    · unfold TR
      rw [ro 0 (by decide) (by decide) (by decide) (by decide), ro 1 (by decide) (by decide) (by decide) (by decide), ro 4 (by decide) (by decide) (by decide) (by decide), ro 5 (by decide) (by decide) (by decide) (by decide), ro 6 (by decide) (by decide) (by decide) (by decide), r2, su_ne (show (0 : Nat) ≠ _ by omega), su_ne (show (0 : Nat) ≠ _ by omega), su_ne (show (0 : Nat) ≠ _ by omega)]
      exact ⟨tr.1, tr.2.1, tr.2.2.1, by omega, fun q => by omega, fun q => by omega, tr.2.2.2.2.2.2.1, tr.2.2.2.2.2.2.2.1, tr.2.2.2.2.2.2.2.2⟩
    · have far := fun h2 => I.far hj h2
      have ps := I.ps hj
      have key : sT S t 3 = sRr j → sT S t 1 = j % 2 → 2 * (S 1 - 1) ≤ j := by
        intro h1 h2
        have h3 := c.2
        unfold sLast at h3
        rw [h1, h2] at h3
        unfold sRr at h3
        by_cases z : j % 2 = 1
        · rw [if_pos z] at h3; omega
        · rw [if_neg z] at h3; omega
      refine ⟨fun q => ?_, fun q q2 => ?_⟩
      · have p1 := ps.1 (by rw [q]; have := I.tn; omega)
        rw [q] at p1
        have := (far (key p1.2.1 p1.2.2)).1
        have := I.tn
        omega
      · have p1 := ps.2 q
        rw [q2] at p1
        have := (far (key p1.2.1 p1.2.2)).2
        omega
  · exact I
theorem i_admit (I : Inv M S) {j : Nat} (hj : j + 2 < 2 * S 1) : Inv M (sAdmit S j).2 := by
  have bx := I.bx
  have tn := I.tn
  have nn : NN = 4294967290 := rfl
  have hj10 : j < 10 := by omega
  have bk := I.bk hj10
  unfold sAdmit
  split
  · rename_i c
    have ci := c.1
    unfold sIn at ci
    have ci := decide_eq_true_iff.mp ci
    have ht : sB S j 2 < S 381 := by omega
    have tr := I.tr ht
    generalize sB S j 2 = t at *
    have r2 : sT (su (su S (382 + 8 * t + 2) 0) (382 + 8 * t + 3) (sAh j)) t 2 = 0 := by
      show su _ _ _ _ = _
      rw [su_ne (by omega), su_at]
    have r3 : sT (su (su S (382 + 8 * t + 2) 0) (382 + 8 * t + 3) (sAh j)) t 3 = sAh j := su_at _ _ _
    have ro : ∀ w, w < 8 → w ≠ 2 → w ≠ 3 → sT (su (su S (382 + 8 * t + 2) 0) (382 + 8 * t + 3) (sAh j)) t w = sT S t w := by
      intro w h1 h2 h3
      show su _ _ _ _ = _
      rw [su_ne (by omega), su_ne (by omega)]
    dsimp only
    refine i_trn I ht (su_lt (su_lt I.1 (by decide)) (sAh_lt hj10)) (fun i q => by rw [su_ne (by omega), su_ne (by omega)]) ?_ (fun j' hj' => Or.inl ?_)
    · unfold TR
      rw [ro 0 (by decide) (by decide) (by decide), ro 1 (by decide) (by decide) (by decide), ro 4 (by decide) (by decide) (by decide), ro 5 (by decide) (by decide) (by decide), ro 6 (by decide) (by decide) (by decide), r2, r3, su_ne (show (0 : Nat) ≠ _ by omega), su_ne (show (0 : Nat) ≠ _ by omega), su_ne (show (1 : Nat) ≠ _ by omega), su_ne (show (1 : Nat) ≠ _ by omega)]
      exact ⟨tr.1, tr.2.1, tr.2.2.1, by omega, fun q => by unfold sAh; omega, fun q => by omega, tr.2.2.2.2.2.2.1, tr.2.2.2.2.2.2.2.1, tr.2.2.2.2.2.2.2.2⟩
    · have ps := I.ps hj'
      refine ⟨fun q => ?_, fun q q2 => ?_⟩
      · have p1 := ps.1 (by rw [q]; omega)
        rw [q] at p1
        omega
      · have p1 := ps.2 q
        rw [q2] at p1
        omega
  · exact I
theorem nx_of {x d j : Nat} (bx : 2 ≤ S 1) (hd : d < 2) (h1 : x = sRr j) (h2 : d = j % 2) (h3 : j + 2 < 2 * S 1) : sNx S x d = some j := by
  unfold sNx
  rw [h1, h2]
  unfold sRr
  rw [if_pos (by omega)]
  congr 1
  omega
theorem i_shunt (I : Inv M S) {t : Nat} (ht : t < S 381) : Inv M (sShunt S t).2 := by
  have bx := I.bx
  have tn := I.tn
  have tr := I.tr ht
  have nn : NN = 4294967290 := rfl
  have go : ∀ v, v ≤ 1 → sT S t 2 ≤ 1 → (∀ j, j < 10 → (sB S j 1 = t → False) ∧ (sB S j 0 = 1 → sB S j 2 = t → False)) → Inv M (su S (382 + 8 * t + 2) v) := by
    intro v hv h1 hp
    have r2 : sT (su S (382 + 8 * t + 2) v) t 2 = v := su_at _ _ _
    have ro : ∀ w, w < 8 → w ≠ 2 → sT (su S (382 + 8 * t + 2) v) t w = sT S t w := fun w h1 h2 => su_ne (by omega)
    refine i_trn I ht (su_lt I.1 (by omega)) (fun i q => su_ne (by omega)) ?_ (fun j' hj' => Or.inl (hp j' hj'))
    unfold TR
    rw [ro 0 (by decide) (by decide), ro 1 (by decide) (by decide), ro 3 (by decide) (by decide), ro 4 (by decide) (by decide), ro 5 (by decide) (by decide), ro 6 (by decide) (by decide), r2, su_ne (show (0 : Nat) ≠ _ by omega), su_ne (show (1 : Nat) ≠ _ by omega)]
    exact ⟨tr.1, tr.2.1, tr.2.2.1, by omega, fun _ => tr.2.2.2.2.1 h1, fun q => by omega, tr.2.2.2.2.2.2.1, tr.2.2.2.2.2.2.2.1, tr.2.2.2.2.2.2.2.2⟩
  unfold sShunt
  split
  · rename_i c
    split
    · rename_i c2
      refine go 1 (by decide) (by omega) (fun j hj => ?_)
      have ps := I.ps hj
      have hh := c2.1
      unfold sHeld at hh
      refine ⟨fun q => ?_, fun q q2 => ?_⟩
      · have p1 := ps.1 (by rw [q]; omega)
        rw [q] at p1
        by_cases f : 2 * (S 1 - 1) ≤ j
        · have := (I.far hj f).1; omega
        · rw [nx_of bx.1 (by omega) p1.2.1 p1.2.2 (by omega)] at hh
          simp [q] at hh
      · have p1 := ps.2 q
        rw [q2] at p1
        by_cases f : 2 * (S 1 - 1) ≤ j
        · have := (I.far hj f).2; omega
        · rw [nx_of bx.1 (by omega) p1.2.1 p1.2.2 (by omega)] at hh
          simp [q, q2] at hh
    · exact I
  · split
    · split
      · rename_i c c1 c2
        refine go 0 (by decide) (by omega) (fun j hj => ?_)
        have ps := I.ps hj
        refine ⟨fun q => ?_, fun q q2 => ?_⟩
        · have p1 := ps.1 (by rw [q]; omega)
          rw [q] at p1
          omega
        · have p1 := ps.2 q
          rw [q2] at p1
          omega
      · exact I
    · exact I
theorem i_divide (I : Inv M S) {t : Nat} (ht : t < S 381) : Inv M (sDivide S t).2 := by
  have bx := I.bx
  have tn := I.tn
  have tr := I.tr ht
  unfold sDivide
  split
  · rename_i c
    have h3 := tr.2.2.2.2.2.1 c.1
    have hj10 : 2 * sT S t 3 + sT S t 1 < 10 := by omega
    have ro : ∀ w, w < 8 → w ≠ 5 → sT (su S (382 + 8 * t + 5) 0) t w = sT S t w := fun w h1 h2 => su_ne (by omega)
    have r5 : sT (su S (382 + 8 * t + 5) 0) t 5 = 0 := su_at _ _ _
    have I1 : Inv M (su S (382 + 8 * t + 5) 0) := by
      refine i_trn I ht (su_lt I.1 (by decide)) (fun i q => su_ne (by omega)) ?_ (fun j' hj' => Or.inr ⟨ro 2 (by decide) (by decide), ro 3 (by decide) (by decide), ro 1 (by decide) (by decide)⟩)
      unfold TR
      rw [ro 0 (by decide) (by decide), ro 1 (by decide) (by decide), ro 2 (by decide) (by decide), ro 3 (by decide) (by decide), ro 4 (by decide) (by decide), ro 6 (by decide) (by decide), r5, su_ne (show (0 : Nat) ≠ _ by omega), su_ne (show (1 : Nat) ≠ _ by omega)]
      exact ⟨tr.1, tr.2.1, tr.2.2.1, tr.2.2.2.1, tr.2.2.2.2.1, tr.2.2.2.2.2.1, tr.2.2.2.2.2.2.1, by omega, tr.2.2.2.2.2.2.2.2⟩
    have bk := I1.bk hj10
    have ps := I1.ps hj10
    generalize 2 * sT S t 3 + sT S t 1 = j at *
    generalize su S (382 + 8 * t + 5) 0 = Z at *
    have e1 : ∀ w, w < 5 → w ≠ 3 → sB (su Z (30 + 5 * j + 3) 1) j w = sB Z j w := fun w hw q => su_ne (by omega)
    have e3 : sB (su Z (30 + 5 * j + 3) 1) j 3 = 1 := su_at _ _ _
    have hT : ∀ t' w, sT (su Z (30 + 5 * j + 3) 1) t' w = sT Z t' w := fun t' w => su_ne (by omega)
    dsimp only
    refine i_blk I1 hj10 (su_lt I1.1 (by decide)) (fun i q => su_ne (by omega)) ?_ ?_ (fun q => e1 1 (by decide) (by decide))
    · unfold BK
      rw [e1 0 (by decide) (by decide), e1 1 (by decide) (by decide), e1 2 (by decide) (by decide), e1 4 (by decide) (by decide), e3, su_ne (show (381 : Nat) ≠ _ by omega)]
      exact ⟨bk.1, bk.2.1, bk.2.2.1, by omega, bk.2.2.2.2.1, fun _ => rfl, bk.2.2.2.2.2.2.1, bk.2.2.2.2.2.2.2⟩
    · unfold PS
      rw [e1 0 (by decide) (by decide), e1 1 (by decide) (by decide), e1 2 (by decide) (by decide)]
      simp only [hT]
      exact ps
  · exact I
theorem i_depart (I : Inv M S) (hr : S 80 < 2147483647) {t : Nat} (ht : t < S 381) : Inv M (sDepart S t).2 := by
  have bx := I.bx
  have tn := I.tn
  have tr := I.tr ht
  have nn : NN = 4294967290 := rfl
  unfold sDepart
  split
  · rename_i c
    cases e : sNx S (sT S t 3) (sT S t 1) with
    | none => exact I
    | some j =>
      obtain ⟨j1, j2, j3, j4, j5⟩ := m_nxj (by omega) e
      have hj10 : j < 10 := by omega
      dsimp only
      split
      · rename_i c1
        have bk := I.bk hj10
        have ps := I.ps hj10
        have sc := I.sc (show j / 2 < 5 by omega)
        -- first the block: occupied, its owner stays
        have b0 : sB (su S (30 + 5 * j + 0) 2) j 0 = 2 := su_at _ _ _
        have b1 : ∀ w, 0 < w → w < 5 → sB (su S (30 + 5 * j + 0) 2) j w = sB S j w := fun w q hw => su_ne (by omega)
        have off : sB S j 1 = NN := by
          by_cases w : sB S j 1 = NN
          · exact w
          · have := bk.2.2.2.2.2.2.1 w; omega
        have on1 : sOn S j = true := by unfold sOn; rw [c1.1]; rfl
        have I1 : Inv M (su S (30 + 5 * j + 0) 2) := by
          refine i_blk2 (j := j) I (by omega) (su_lt I.1 (by decide)) (fun i q _ => su_ne (by omega)) ?_ ?_ ?_
          · unfold BK
            rw [b0, b1 1 (by decide) (by decide), b1 2 (by decide) (by decide), b1 3 (by decide) (by decide), b1 4 (by decide) (by decide), su_ne (show (381 : Nat) ≠ _ by omega)]
            refine ⟨by omega, bk.2.1, bk.2.2.1, bk.2.2.2.1, bk.2.2.2.2.1, bk.2.2.2.2.2.1, fun q => absurd off q, ⟨fun q => ?_, fun q => by omega⟩⟩
            omega
          · unfold PS
            rw [b0, b1 1 (by decide) (by decide)]
            exact ⟨fun q => absurd off q, fun q => by omega⟩
          · refine tk_of hj10 (su_ne (by omega)) (su_ne (by unfold sOp; omega)) (op_off I hj10 on1) ?_ (fun q _ => ?_)
            · rw [su_ne (by omega), su_ne (by omega)]; exact sc.2.2.1
            · rw [su_ne (by omega), su_ne (by omega)]; exact to_nine I hj10 on1 q
        have es : su (su (su (su S (382 + 8 * t + 2) 2) (382 + 8 * t + 3) (j / 2)) (382 + 8 * t + 4) (S (3 + j / 2) + sT S t 0 - 1)) (30 + 5 * j + 0) 2 = su (su (su (su S (30 + 5 * j + 0) 2) (382 + 8 * t + 2) 2) (382 + 8 * t + 3) (j / 2)) (382 + 8 * t + 4) (S (3 + j / 2) + sT S t 0 - 1) := by
          funext k
          unfold su
          by_cases k1 : k = 30 + 5 * j + 0
          · rw [if_pos k1, if_pos k1, if_neg (by omega), if_neg (by omega), if_neg (by omega)]
          · rw [if_neg k1, if_neg k1]
        rw [es]
        have tr1 := I1.tr (t := t) (by rw [su_ne (by omega)]; exact ht)
        have sB1 : ∀ j' w, j' ≠ j → j' < 10 → w < 5 → sB (su S (30 + 5 * j + 0) 2) j' w = sB S j' w := fun j' w q q1 q2 => su_ne (by omega)
        have n1 : su S (30 + 5 * j + 0) 2 1 = S 1 := su_ne (by omega)
        have n381 : su S (30 + 5 * j + 0) 2 381 = S 381 := su_ne (by omega)
        have n80 : su S (30 + 5 * j + 0) 2 80 = S 80 := su_ne (by omega)
        generalize hv : S (3 + j / 2) + sT S t 0 - 1 = v
        generalize hZ : su S (30 + 5 * j + 0) 2 = Z at *
        have r2 : sT (su (su (su Z (382 + 8 * t + 2) 2) (382 + 8 * t + 3) (j / 2)) (382 + 8 * t + 4) v) t 2 = 2 := by
          show su _ _ _ _ = _
          rw [su_ne (by omega), su_ne (by omega), su_at]
        have r3 : sT (su (su (su Z (382 + 8 * t + 2) 2) (382 + 8 * t + 3) (j / 2)) (382 + 8 * t + 4) v) t 3 = j / 2 := by
          show su _ _ _ _ = _
          rw [su_ne (by omega), su_at]
        have r4 : sT (su (su (su Z (382 + 8 * t + 2) 2) (382 + 8 * t + 3) (j / 2)) (382 + 8 * t + 4) v) t 4 = v := su_at _ _ _
        have ro : ∀ w, w < 8 → w ≠ 2 → w ≠ 3 → w ≠ 4 → sT (su (su (su Z (382 + 8 * t + 2) 2) (382 + 8 * t + 3) (j / 2)) (382 + 8 * t + 4) v) t w = sT Z t w := by
          intro w h1 h2 h3 h4
          show su _ _ _ _ = _
          rw [su_ne (by omega), su_ne (by omega), su_ne (by omega)]
        refine i_ring (i_trn I1 (by rw [n381]; exact ht) (su_lt (su_lt (su_lt I1.1 (by decide)) (by omega)) (by omega)) (fun i q => by rw [su_ne (by omega), su_ne (by omega), su_ne (by omega)]) ?_ (fun j' hj' => Or.inl ?_)) (by rw [su_ne (by omega), su_ne (by omega), su_ne (by omega), n80]; exact hr) hj10 (sRr_lt hj10) (by decide)
        · unfold TR
          rw [ro 0 (by decide) (by decide) (by decide) (by decide), ro 1 (by decide) (by decide) (by decide) (by decide), ro 5 (by decide) (by decide) (by decide) (by decide), ro 6 (by decide) (by decide) (by decide) (by decide), r2, r3, r4, su_ne (show (0 : Nat) ≠ _ by omega), su_ne (show (0 : Nat) ≠ _ by omega), su_ne (show (0 : Nat) ≠ _ by omega), su_ne (show (1 : Nat) ≠ _ by omega), su_ne (show (1 : Nat) ≠ _ by omega), su_ne (show (1 : Nat) ≠ _ by omega), n1]
          exact ⟨tr1.1, tr1.2.1, tr1.2.2.1, by omega, fun q => by omega, fun q => by omega, by omega, tr1.2.2.2.2.2.2.2.1, tr1.2.2.2.2.2.2.2.2⟩
        · by_cases q : j' = j
          · rw [q, b0, b1 1 (by decide) (by decide), off]
            exact ⟨fun z => by omega, fun z => by omega⟩
          · rw [sB1 j' 0 q hj' (by decide), sB1 j' 1 q hj' (by decide), sB1 j' 2 q hj' (by decide)]
            have psj := I.ps hj'
            have pj := ps.2 c1.1
            rw [c1.2] at pj
            refine ⟨fun z => ?_, fun z z2 => ?_⟩
            · have p1 := psj.1 (by rw [z]; omega)
              rw [z] at p1
              exact q (rr_inj (p1.2.1.symm.trans pj.2.1) (p1.2.2.symm.trans pj.2.2))
            · have p1 := psj.2 z
              rw [z2] at p1
              exact q (rr_inj (p1.2.1.symm.trans pj.2.1) (p1.2.2.symm.trans pj.2.2))
      · exact I
  · exact I
theorem i_add (I : Inv M S) (hn : S 381 + 1 ≤ M) {k d : Nat} (hk : 1 ≤ k ∧ k ≤ 5) (hd : d < 2) : Inv M (sAdd S k d).2 := by
  have bx := I.bx
  have tn := I.tn
  have nn : NN = 4294967290 := rfl
  have hf : sFirst S d < S 1 := by unfold sFirst; split <;> omega
  unfold sAdd
  dsimp only
  generalize hx : sFirst S d = x at *
  have rd : ∀ i, ¬ (382 + 8 * S 381 ≤ i ∧ i ≤ 382 + 8 * S 381 + 7) → i ≠ 381 → su (su (su (su (su (su (su (su (su S (382 + 8 * S 381 + 0) k) (382 + 8 * S 381 + 1) d) (382 + 8 * S 381 + 2) 0) (382 + 8 * S 381 + 3) x) (382 + 8 * S 381 + 4) 0) (382 + 8 * S 381 + 5) 1) (382 + 8 * S 381 + 6) (S 0)) (382 + 8 * S 381 + 7) NN) 381 (S 381 + 1) i = S i := by
    intro i h1 h2
    rw [su_ne h2, su_ne (by omega), su_ne (by omega), su_ne (by omega), su_ne (by omega), su_ne (by omega), su_ne (by omega), su_ne (by omega), su_ne (by omega)]
  have en : su (su (su (su (su (su (su (su (su S (382 + 8 * S 381 + 0) k) (382 + 8 * S 381 + 1) d) (382 + 8 * S 381 + 2) 0) (382 + 8 * S 381 + 3) x) (382 + 8 * S 381 + 4) 0) (382 + 8 * S 381 + 5) 1) (382 + 8 * S 381 + 6) (S 0)) (382 + 8 * S 381 + 7) NN) 381 (S 381 + 1) 381 = S 381 + 1 := su_at _ _ _
  have t0 : su (su (su (su (su (su (su (su (su S (382 + 8 * S 381 + 0) k) (382 + 8 * S 381 + 1) d) (382 + 8 * S 381 + 2) 0) (382 + 8 * S 381 + 3) x) (382 + 8 * S 381 + 4) 0) (382 + 8 * S 381 + 5) 1) (382 + 8 * S 381 + 6) (S 0)) (382 + 8 * S 381 + 7) NN) 381 (S 381 + 1) (382 + 8 * S 381 + 0) = k := by
    rw [su_ne (by omega), su_ne (by omega), su_ne (by omega), su_ne (by omega), su_ne (by omega), su_ne (by omega), su_ne (by omega), su_ne (by omega), su_at]
  have t1 : su (su (su (su (su (su (su (su (su S (382 + 8 * S 381 + 0) k) (382 + 8 * S 381 + 1) d) (382 + 8 * S 381 + 2) 0) (382 + 8 * S 381 + 3) x) (382 + 8 * S 381 + 4) 0) (382 + 8 * S 381 + 5) 1) (382 + 8 * S 381 + 6) (S 0)) (382 + 8 * S 381 + 7) NN) 381 (S 381 + 1) (382 + 8 * S 381 + 1) = d := by
    rw [su_ne (by omega), su_ne (by omega), su_ne (by omega), su_ne (by omega), su_ne (by omega), su_ne (by omega), su_ne (by omega), su_at]
  have t2 : su (su (su (su (su (su (su (su (su S (382 + 8 * S 381 + 0) k) (382 + 8 * S 381 + 1) d) (382 + 8 * S 381 + 2) 0) (382 + 8 * S 381 + 3) x) (382 + 8 * S 381 + 4) 0) (382 + 8 * S 381 + 5) 1) (382 + 8 * S 381 + 6) (S 0)) (382 + 8 * S 381 + 7) NN) 381 (S 381 + 1) (382 + 8 * S 381 + 2) = 0 := by
    rw [su_ne (by omega), su_ne (by omega), su_ne (by omega), su_ne (by omega), su_ne (by omega), su_ne (by omega), su_at]
  have t3 : su (su (su (su (su (su (su (su (su S (382 + 8 * S 381 + 0) k) (382 + 8 * S 381 + 1) d) (382 + 8 * S 381 + 2) 0) (382 + 8 * S 381 + 3) x) (382 + 8 * S 381 + 4) 0) (382 + 8 * S 381 + 5) 1) (382 + 8 * S 381 + 6) (S 0)) (382 + 8 * S 381 + 7) NN) 381 (S 381 + 1) (382 + 8 * S 381 + 3) = x := by
    rw [su_ne (by omega), su_ne (by omega), su_ne (by omega), su_ne (by omega), su_ne (by omega), su_at]
  have t4 : su (su (su (su (su (su (su (su (su S (382 + 8 * S 381 + 0) k) (382 + 8 * S 381 + 1) d) (382 + 8 * S 381 + 2) 0) (382 + 8 * S 381 + 3) x) (382 + 8 * S 381 + 4) 0) (382 + 8 * S 381 + 5) 1) (382 + 8 * S 381 + 6) (S 0)) (382 + 8 * S 381 + 7) NN) 381 (S 381 + 1) (382 + 8 * S 381 + 4) = 0 := by
    rw [su_ne (by omega), su_ne (by omega), su_ne (by omega), su_ne (by omega), su_at]
  have t5 : su (su (su (su (su (su (su (su (su S (382 + 8 * S 381 + 0) k) (382 + 8 * S 381 + 1) d) (382 + 8 * S 381 + 2) 0) (382 + 8 * S 381 + 3) x) (382 + 8 * S 381 + 4) 0) (382 + 8 * S 381 + 5) 1) (382 + 8 * S 381 + 6) (S 0)) (382 + 8 * S 381 + 7) NN) 381 (S 381 + 1) (382 + 8 * S 381 + 5) = 1 := by
    rw [su_ne (by omega), su_ne (by omega), su_ne (by omega), su_at]
  have t6 : su (su (su (su (su (su (su (su (su S (382 + 8 * S 381 + 0) k) (382 + 8 * S 381 + 1) d) (382 + 8 * S 381 + 2) 0) (382 + 8 * S 381 + 3) x) (382 + 8 * S 381 + 4) 0) (382 + 8 * S 381 + 5) 1) (382 + 8 * S 381 + 6) (S 0)) (382 + 8 * S 381 + 7) NN) 381 (S 381 + 1) (382 + 8 * S 381 + 6) = S 0 := by
    rw [su_ne (by omega), su_ne (by omega), su_at]
  have lt : ∀ i, su (su (su (su (su (su (su (su (su S (382 + 8 * S 381 + 0) k) (382 + 8 * S 381 + 1) d) (382 + 8 * S 381 + 2) 0) (382 + 8 * S 381 + 3) x) (382 + 8 * S 381 + 4) 0) (382 + 8 * S 381 + 5) 1) (382 + 8 * S 381 + 6) (S 0)) (382 + 8 * S 381 + 7) NN) 381 (S 381 + 1) i < 4294967296 := su_lt (su_lt (su_lt (su_lt (su_lt (su_lt (su_lt (su_lt (su_lt I.1 (by omega)) (by omega)) (by omega)) (by omega)) (by omega)) (by omega)) (I.1 0)) (by decide)) (by omega)
  generalize su (su (su (su (su (su (su (su (su S (382 + 8 * S 381 + 0) k) (382 + 8 * S 381 + 1) d) (382 + 8 * S 381 + 2) 0) (382 + 8 * S 381 + 3) x) (382 + 8 * S 381 + 4) 0) (382 + 8 * S 381 + 5) 1) (382 + 8 * S 381 + 6) (S 0)) (382 + 8 * S 381 + 7) NN) 381 (S 381 + 1) = Z at *
  have hB : ∀ j w, j < 10 → w < 5 → sB Z j w = sB S j w := fun j w hj hw => rd _ (by omega) (by omega)
  have hT : ∀ t w, t < S 381 → w < 8 → sT Z t w = sT S t w := fun t w ht hw => rd _ (by omega) (by omega)
  have e1 : Z 1 = S 1 := rd _ (by omega) (by omega)
  have e2 : Z 2 = S 2 := rd _ (by omega) (by omega)
  have e0 : Z 0 = S 0 := rd _ (by omega) (by omega)
  refine ⟨lt, by rw [e1, e2]; exact I.bx, by rw [en]; exact ⟨hn, tn.2⟩, fun s hs => ?_, fun k' h => by rw [rd (18 + k') (by omega) (by omega)]; exact I.lp h, fun j hj => ?_, fun t ht => ?_, fun j hj => ?_, fun j hj q => ?_⟩
  · have sc := I.sc hs
    rw [rd (3 + s) (by omega) (by omega), rd (8 + 2 * s) (by omega) (by omega), rd (8 + 2 * s + 1) (by omega) (by omega)]
    unfold sTo sOn
    rw [sSg_of e2, hB (2 * s) 0 (by omega) (by decide), hB (2 * s + 1) 0 (by omega) (by decide)]
    exact sc
  · have bk := I.bk hj
    rw [hB j 0 hj (by decide), hB j 1 hj (by decide), hB j 2 hj (by decide), hB j 3 hj (by decide), hB j 4 hj (by decide), en]
    exact ⟨bk.1, bk.2.1.imp id (fun q => by omega), bk.2.2.1.imp id (fun q => by omega), bk.2.2.2⟩
  · rw [en] at ht
    by_cases q : t < S 381
    · rw [hT t 0 q (by decide), hT t 1 q (by decide), hT t 2 q (by decide), hT t 3 q (by decide), hT t 4 q (by decide), hT t 5 q (by decide), hT t 6 q (by decide), e0, e1]
      exact I.tr q
    · have q : t = S 381 := by omega
      rw [q]
      unfold sT
      rw [t0, t1, t2, t3, t4, t5, t6, e0, e1]
      exact ⟨hk.1, hk.2, by omega, by omega, fun _ => hf, fun q => by omega, by omega, by omega, Nat.le_refl _⟩
  · have ps := I.ps hj
    have bk := I.bk hj
    rw [hB j 0 hj (by decide), hB j 1 hj (by decide), hB j 2 hj (by decide)]
    refine ⟨fun q => ?_, fun q => ?_⟩
    · have ht : sB S j 1 < S 381 := by omega
      rw [hT _ 2 ht (by decide), hT _ 3 ht (by decide), hT _ 1 ht (by decide)]
      exact ps.1 q
    · have ht : sB S j 2 < S 381 := by
        have := bk.2.2.2.2.2.2.2
        by_cases z : sB S j 2 = NN
        · have := this.mp z; omega
        · omega
      rw [hT _ 2 ht (by decide), hT _ 3 ht (by decide), hT _ 1 ht (by decide)]
      exact ps.2 q
  · rw [hB j 0 hj (by decide), hB j 1 hj (by decide)]
    exact I.far hj (by rw [e1] at q; exact q)
end
