section
variable {S S' : Sm} {M : Nat}
abbrev BK (S : Sm) (j : Nat) : Prop := sB S j 0 ≤ 3 ∧ (sB S j 1 = NN ∨ sB S j 1 < S 381) ∧ (sB S j 2 = NN ∨ sB S j 2 < S 381) ∧ sB S j 3 ≤ 1 ∧ sB S j 4 ≤ 60 ∧ (0 < sB S j 4 → sB S j 3 = 1) ∧ (sB S j 1 ≠ NN → sB S j 0 = 0) ∧ (sB S j 2 = NN ↔ sB S j 0 = 0 ∨ sB S j 0 = 3)
abbrev TR (S : Sm) (t : Nat) : Prop := 1 ≤ sT S t 0 ∧ sT S t 0 ≤ 5 ∧ sT S t 1 ≤ 1 ∧ sT S t 2 ≤ 3 ∧ (sT S t 2 ≤ 1 → sT S t 3 < S 1) ∧ (sT S t 2 = 2 → sT S t 3 + 1 < S 1) ∧ sT S t 4 ≤ 60 ∧ sT S t 5 ≤ 1 ∧ sT S t 6 ≤ S 0
abbrev PS (S : Sm) (j : Nat) : Prop := (sB S j 1 ≠ NN → sT S (sB S j 1) 2 = 0 ∧ sT S (sB S j 1) 3 = sRr j ∧ sT S (sB S j 1) 1 = j % 2) ∧ (sB S j 0 = 1 → sT S (sB S j 2) 2 = 0 ∧ sT S (sB S j 2) 3 = sRr j ∧ sT S (sB S j 2) 1 = j % 2)
abbrev TK (S : Sm) (s : Nat) : Prop := S (8 + 2 * s) + S (8 + 2 * s + 1) ≤ 10 ∧ (sTo S s = true → S (8 + 2 * s) + S (8 + 2 * s + 1) ≤ 9) ∧ ¬ (sSg S s = true ∧ sOn S (2 * s) = true ∧ sOn S (2 * s + 1) = true)
theorem Inv.mk' (I : Inv M S) (hlt : ∀ k, S' k < 4294967296) (e1 : S' 1 = S 1) (e2 : S' 2 = S 2) (en : S' 381 = S 381) (ht : ∀ s, s < 5 → S' (3 + s) = S (3 + s)) (hl : ∀ k, k < 12 → S' (18 + k) = S (18 + k)) (hk : ∀ s, s < 5 → TK S' s) (hb : ∀ j, j < 10 → BK S' j) (htr : ∀ t, t < S 381 → TR S' t) (hps : ∀ j, j < 10 → PS S' j) (hf : ∀ j, j < 10 → 2 * (S 1 - 1) ≤ j → sB S' j 1 = sB S j 1 ∧ sB S' j 0 = sB S j 0) : Inv M S' := by
  refine ⟨hlt, by rw [e1, e2]; exact I.bx, by rw [en]; exact I.tn, fun s hs => ?_, fun k h => by rw [hl k h]; exact I.lp h, hb, fun t h => htr t (by rw [en] at h; exact h), hps, fun j hj h => ?_⟩
  · have sc := I.sc hs
    rw [ht s hs]
    exact ⟨sc.1, sc.2.1, hk s hs⟩
  · rw [e1] at h
    have := hf j hj h
    rw [this.1, this.2]
    exact I.far hj h
/-- only the register and the count of signals change -/
theorem Inv.same (I : Inv M S) (hlt : ∀ k, S' k < 4294967296) (h : ∀ i, i < 80 ∨ 381 ≤ i → S' i = S i) (h0 : S 381 ≤ 305) : Inv M S' := by
  have hB : ∀ j w, j < 10 → w < 5 → sB S' j w = sB S j w := fun j w hj hw => h _ (by omega)
  have hT : ∀ t w, sT S' t w = sT S t w := fun t w => h _ (by omega)
  have e2 : S' 2 = S 2 := h 2 (by omega)
  have en : S' 381 = S 381 := h _ (by omega)
  refine I.mk' hlt (h _ (by omega)) e2 en (fun s _ => h _ (by omega)) (fun k _ => h _ (by omega)) (fun s hs => ?_) (fun j hj => ?_) (fun t ht => ?_) (fun j hj => ?_) (fun j hj _ => ⟨hB j 1 hj (by decide), hB j 0 hj (by decide)⟩)
  · have sc := I.sc hs
    unfold TK
    rw [h (8 + 2 * s) (by omega), h (8 + 2 * s + 1) (by omega), sTo_of e2 (fun j hj => hB j 0 hj (by decide)) hs, sSg_of e2]
    unfold sOn
    rw [hB (2 * s) 0 (by omega) (by decide), hB (2 * s + 1) 0 (by omega) (by decide)]
    exact sc.2.2
  · unfold BK
    rw [hB j 0 hj (by decide), hB j 1 hj (by decide), hB j 2 hj (by decide), hB j 3 hj (by decide), hB j 4 hj (by decide), en]
    exact I.bk hj
  · unfold TR
    rw [hT t 0, hT t 1, hT t 2, hT t 3, hT t 4, hT t 5, hT t 6, h 1 (by omega), h 0 (by omega)]
    exact I.tr ht
  · unfold PS
    rw [hB j 0 hj (by decide), hB j 1 hj (by decide), hB j 2 hj (by decide), hT, hT, hT, hT, hT, hT]
    exact I.ps hj
theorem su_lt {i v : Nat} (h : ∀ k, S k < 4294967296) (hv : v < 4294967296) : ∀ k, su S i v k < 4294967296 := by
  intro k
  unfold su
  split
  · exact hv
  · exact h k
theorem i_ring (I : Inv M S) (hr : S 80 < 2147483647) {j x c : Nat} (hj : j < 10) (hx : x < 4294967296) (hc : c < 4294967296) : Inv M (sRing S j x c) := by
  refine I.same ?_ (fun i h => sRing_ne h) (by have := I.tn; omega)
  unfold sRing
  exact su_lt (su_lt (su_lt (su_lt (su_lt (su_lt I.1 (I.1 0)) (by omega)) (by omega)) hx) hc) (by omega)
theorem sCo_lt (k : Nat) : sCo k < 4294967296 := by unfold sCo; repeat' (first | decide | split)
theorem sRr_lt {j : Nat} (h : j < 10) : sRr j < 4294967296 := by unfold sRr; omega
theorem sAh_lt {j : Nat} (h : j < 10) : sAh j < 4294967296 := by unfold sAh; omega
/-- one block's offer, owner, part or engine changes: no state -/
theorem i_blk (I : Inv M S) {j : Nat} (hj : j < 10) (hlt : ∀ k, S' k < 4294967296) (h : ∀ i, ¬ (30 + 5 * j + 0 < i ∧ i ≤ 30 + 5 * j + 4) → S' i = S i) (hb : BK S' j) (hp : PS S' j) (hf : 2 * (S 1 - 1) ≤ j → sB S' j 1 = sB S j 1) : Inv M S' := by
  have hB : ∀ j' w, j' ≠ j → j' < 10 → w < 5 → sB S' j' w = sB S j' w := fun j' w q hj' hw => h _ (by omega)
  have hB0 : ∀ j', j' < 10 → sB S' j' 0 = sB S j' 0 := fun j' hj' => h _ (by omega)
  have hT : ∀ t w, sT S' t w = sT S t w := fun t w => h _ (by omega)
  have e2 : S' 2 = S 2 := h 2 (by omega)
  have en : S' 381 = S 381 := h _ (by omega)
  refine I.mk' hlt (h _ (by omega)) e2 en (fun s _ => h _ (by omega)) (fun k _ => h _ (by omega)) (fun s hs => ?_) (fun j' hj' => ?_) (fun t ht => ?_) (fun j' hj' => ?_) (fun j' hj' q => ⟨?_, hB0 j' hj'⟩)
  · have sc := I.sc hs
    unfold TK
    rw [h (8 + 2 * s) (by omega), h (8 + 2 * s + 1) (by omega), sTo_of e2 hB0 hs, sSg_of e2]
    unfold sOn
    rw [hB0 (2 * s) (by omega), hB0 (2 * s + 1) (by omega)]
    exact sc.2.2
  · by_cases e : j' = j
    · rw [e]; exact hb
    · unfold BK
      rw [hB j' 0 e hj' (by decide), hB j' 1 e hj' (by decide), hB j' 2 e hj' (by decide), hB j' 3 e hj' (by decide), hB j' 4 e hj' (by decide), en]
      exact I.bk hj'
  · unfold TR
    rw [hT t 0, hT t 1, hT t 2, hT t 3, hT t 4, hT t 5, hT t 6, h 1 (by omega), h 0 (by omega)]
    exact I.tr ht
  · by_cases e : j' = j
    · rw [e]; exact hp
    · unfold PS
      rw [hB j' 0 e hj' (by decide), hB j' 1 e hj' (by decide), hB j' 2 e hj' (by decide), hT, hT, hT, hT, hT, hT]
      exact I.ps hj'
  · by_cases e : j' = j
    · rw [e] at q ⊢; exact hf q
    · exact hB j' 1 e hj' (by decide)
/-- a block and its section's tokens change -/
theorem i_blk2 (I : Inv M S) {j : Nat} (hj : j + 2 < 2 * S 1) (hlt : ∀ k, S' k < 4294967296) (h : ∀ i, ¬ (30 + 5 * j ≤ i ∧ i ≤ 30 + 5 * j + 4) → ¬ (8 + 2 * (j / 2) ≤ i ∧ i ≤ 8 + 2 * (j / 2) + 1) → S' i = S i) (hb : BK S' j) (hp : PS S' j) (hk : TK S' (j / 2)) : Inv M S' := by
  have bx := I.bx
  have hB : ∀ j' w, j' ≠ j → j' < 10 → w < 5 → sB S' j' w = sB S j' w := fun j' w q hj' hw => h _ (by omega) (by omega)
  have hT : ∀ t w, sT S' t w = sT S t w := fun t w => h _ (by omega) (by omega)
  have e2 : S' 2 = S 2 := h 2 (by omega) (by omega)
  have en : S' 381 = S 381 := h _ (by omega) (by omega)
  refine I.mk' hlt (h _ (by omega) (by omega)) e2 en (fun s _ => h _ (by omega) (by omega)) (fun k _ => h _ (by omega) (by omega)) (fun s hs => ?_) (fun j' hj' => ?_) (fun t ht => ?_) (fun j' hj' => ?_) (fun j' hj' q => ⟨hB j' 1 (by omega) hj' (by decide), hB j' 0 (by omega) hj' (by decide)⟩)
  · by_cases e : s = j / 2
    · rw [e]; exact hk
    · have sc := I.sc hs
      unfold TK sTo sOn
      rw [h (8 + 2 * s) (by omega) (by omega), h (8 + 2 * s + 1) (by omega) (by omega), sSg_of e2, hB (2 * s) 0 (by omega) (by omega) (by decide), hB (2 * s + 1) 0 (by omega) (by omega) (by decide)]
      exact sc.2.2
  · by_cases e : j' = j
    · rw [e]; exact hb
    · unfold BK
      rw [hB j' 0 e hj' (by decide), hB j' 1 e hj' (by decide), hB j' 2 e hj' (by decide), hB j' 3 e hj' (by decide), hB j' 4 e hj' (by decide), en]
      exact I.bk hj'
  · unfold TR
    rw [hT t 0, hT t 1, hT t 2, hT t 3, hT t 4, hT t 5, hT t 6, h 1 (by omega) (by omega), h 0 (by omega) (by omega)]
    exact I.tr ht
  · by_cases e : j' = j
    · rw [e]; exact hp
    · unfold PS
      rw [hB j' 0 e hj' (by decide), hB j' 1 e hj' (by decide), hB j' 2 e hj' (by decide), hT, hT, hT, hT, hT, hT]
      exact I.ps hj'
theorem tk_of {j : Nat} (hj : j < 10) (h2 : S' 2 = S 2) (ho : sB S' (sOp j) 0 = sB S (sOp j) 0) (hop : sSg S (j / 2) = true → sOn S (sOp j) = false) (h10 : S' (8 + 2 * (j / 2)) + S' (8 + 2 * (j / 2) + 1) ≤ 10) (h9 : sSg S (j / 2) = true → sOn S' j = true → S' (8 + 2 * (j / 2)) + S' (8 + 2 * (j / 2) + 1) ≤ 9) : TK S' (j / 2) := by
  have oo : sOn S' (sOp j) = sOn S (sOp j) := by unfold sOn; rw [ho]
  unfold TK sTo
  rw [sSg_of h2]
  cases cs : sSg S (j / 2) with
  | false => exact ⟨h10, fun q => by simp at q, fun q => by cases q.1⟩
  | true =>
    have hf := hop cs
    rcases (show j = 2 * (j / 2) ∨ j = 2 * (j / 2) + 1 by omega) with z | z
    · have e2 : sOp j = 2 * (j / 2) + 1 := by unfold sOp; omega
      have oo' : sOn S' (2 * (j / 2) + 1) = false := by rw [← e2, oo, hf]
      have ez : sOn S' (2 * (j / 2)) = sOn S' j := by rw [← z]
      rw [oo', ez]
      refine ⟨h10, fun q => h9 cs (by simpa using q), fun q => by cases q.2.2⟩
    · have e2 : sOp j = 2 * (j / 2) := by unfold sOp; omega
      have oo' : sOn S' (2 * (j / 2)) = false := by rw [← e2, oo, hf]
      have ez : sOn S' (2 * (j / 2) + 1) = sOn S' j := by rw [← z]
      rw [oo', ez]
      refine ⟨h10, fun q => h9 cs (by simpa using q), fun q => by cases q.2.1⟩
theorem i_lift (I : Inv M S) (hr : S 80 < 2147483647) {j : Nat} (hj : j + 2 < 2 * S 1) : Inv M (sLift S j).2 := by
  have bx := I.bx
  have hj10 : j < 10 := by omega
  unfold sLift
  split
  · rename_i c
    have bk := I.bk hj10
    have ps := I.ps hj10
    have sc := I.sc (show j / 2 < 5 by omega)
    have e0 : sB (su S (30 + 5 * j + 0) 0) j 0 = 0 := su_at _ _ _
    have e1 : ∀ w, 0 < w → w < 5 → sB (su S (30 + 5 * j + 0) 0) j w = sB S j w := fun w q hw => su_ne (by omega)
    have en : su S (30 + 5 * j + 0) 0 381 = S 381 := su_ne (by omega)
    refine i_ring (i_blk2 I hj (su_lt I.1 (by decide)) (fun i q _ => su_ne (by omega)) ?_ ?_ ?_) (by rw [su_ne (by omega)]; exact hr) hj10 (sAh_lt hj10) (by decide)
    · unfold BK
      rw [e0, e1 1 (by decide) (by decide), e1 2 (by decide) (by decide), e1 3 (by decide) (by decide), e1 4 (by decide) (by decide), en]
      exact ⟨by omega, bk.2.1, bk.2.2.1, bk.2.2.2.1, bk.2.2.2.2.1, bk.2.2.2.2.2.1, fun _ => rfl, ⟨fun _ => Or.inl rfl, fun _ => bk.2.2.2.2.2.2.2.mpr (Or.inr c)⟩⟩
    · unfold PS
      rw [e0, e1 1 (by decide) (by decide)]
      refine ⟨fun q => ?_, fun q => by cases q⟩
      have := bk.2.2.2.2.2.2.1 q
      omega
    · unfold TK
      have hs : ∀ j', sOn (su S (30 + 5 * j + 0) 0) j' = true → sOn S j' = true := by
        intro j' q
        by_cases z : j' = j
        · rw [z] at q
          unfold sOn at q
          rw [e0] at q
          simp at q
        · unfold sOn at q ⊢
          rw [show sB (su S (30 + 5 * j + 0) 0) j' 0 = sB S j' 0 from su_ne (by omega)] at q
          exact q
      rw [su_ne (by omega), su_ne (by omega), sSg_su (by omega)]
      refine ⟨sc.2.2.1, fun q => sc.2.2.2.1 ?_, fun q => sc.2.2.2.2 ⟨q.1, hs _ q.2.1, hs _ q.2.2⟩⟩
      unfold sTo at q ⊢
      rw [sSg_su (by omega)] at q
      simp only [Bool.and_eq_true, Bool.or_eq_true] at q ⊢
      exact ⟨q.1, q.2.imp (hs _) (hs _)⟩
  · exact I
theorem i_accept (I : Inv M S) (hr : S 80 < 2147483647) {j : Nat} (hj : j + 2 < 2 * S 1) : Inv M (sAccept S j).2 := by
  have bx := I.bx
  have hj10 : j < 10 := by omega
  unfold sAccept
  split
  · rename_i c
    have nn : NN = 4294967290 := rfl
    have bk := I.bk hj10
    have ps := I.ps hj10
    have tn := I.tn
    have sc := I.sc (show j / 2 < 5 by omega)
    have ho : sB S j 1 < S 381 := by omega
    generalize hv : S (8 + 2 * (j / 2) + j % 2) - (if sSg S (j / 2) = true then 1 else 0) = v
    have hop : sSg S (j / 2) = true → sOn S (sOp j) = false ∧ 0 < S (8 + 2 * (j / 2) + j % 2) := by
      intro q
      have := c.2.2
      unfold sTk at this
      rw [q] at this
      simp at this
      refine ⟨?_, this.2.2⟩
      unfold sOn
      rw [this.1]; rfl
    have rd : ∀ i, i ≠ 8 + 2 * (j / 2) + j % 2 → i ≠ 30 + 5 * j + 2 → i ≠ 30 + 5 * j + 0 → i ≠ 30 + 5 * j + 1 → su (su (su (su S (30 + 5 * j + 1) NN) (30 + 5 * j + 0) 1) (30 + 5 * j + 2) (sB S j 1)) (8 + 2 * (j / 2) + j % 2) v i = S i := fun i q1 q2 q3 q4 => by rw [su_ne q1, su_ne q2, su_ne q3, su_ne q4]
    have e0 : sB (su (su (su (su S (30 + 5 * j + 1) NN) (30 + 5 * j + 0) 1) (30 + 5 * j + 2) (sB S j 1)) (8 + 2 * (j / 2) + j % 2) v) j 0 = 1 := by
      show su _ _ _ _ = _
      rw [su_ne (by omega), su_ne (by omega), su_at]
    have e1 : sB (su (su (su (su S (30 + 5 * j + 1) NN) (30 + 5 * j + 0) 1) (30 + 5 * j + 2) (sB S j 1)) (8 + 2 * (j / 2) + j % 2) v) j 1 = NN := by
      show su _ _ _ _ = _
      rw [su_ne (by omega), su_ne (by omega), su_ne (by omega), su_at]
    have e2 : sB (su (su (su (su S (30 + 5 * j + 1) NN) (30 + 5 * j + 0) 1) (30 + 5 * j + 2) (sB S j 1)) (8 + 2 * (j / 2) + j % 2) v) j 2 = sB S j 1 := by
      show su _ _ _ _ = _
      rw [su_ne (by omega), su_at]
    have ev : su (su (su (su S (30 + 5 * j + 1) NN) (30 + 5 * j + 0) 1) (30 + 5 * j + 2) (sB S j 1)) (8 + 2 * (j / 2) + j % 2) v (8 + 2 * (j / 2) + j % 2) = v := su_at _ _ _
    have hvl : v ≤ S (8 + 2 * (j / 2) + j % 2) := by omega
    have ltS := I.1
    have lt' : ∀ k, su (su (su (su S (30 + 5 * j + 1) NN) (30 + 5 * j + 0) 1) (30 + 5 * j + 2) (sB S j 1)) (8 + 2 * (j / 2) + j % 2) v k < 4294967296 := su_lt (su_lt (su_lt (su_lt I.1 (by decide)) (by decide)) (I.lb j 1)) (Nat.lt_of_le_of_lt hvl (I.1 _))
    have r80 := rd 80 (by omega) (by omega) (by omega) (by omega)
    generalize su (su (su (su S (30 + 5 * j + 1) NN) (30 + 5 * j + 0) 1) (30 + 5 * j + 2) (sB S j 1)) (8 + 2 * (j / 2) + j % 2) v = Z at *
    have e3 : sB Z j 3 = sB S j 3 := rd _ (by omega) (by omega) (by omega) (by omega)
    have e4 : sB Z j 4 = sB S j 4 := rd _ (by omega) (by omega) (by omega) (by omega)
    have hT : ∀ t w, sT Z t w = sT S t w := fun t w => rd _ (by omega) (by omega) (by omega) (by omega)
    have psx := ps.1 c.1
    refine i_ring (i_blk2 I hj lt' (fun i q1 q2 => rd i (by omega) (by omega) (by omega) (by omega)) ?_ ?_ ?_) (by rw [r80]; exact hr) hj10 (sAh_lt hj10) (sCo_lt _)
    · unfold BK
      rw [e0, e1, e2, e3, e4, rd 381 (by omega) (by omega) (by omega) (by omega)]
      exact ⟨by omega, Or.inl rfl, Or.inr ho, bk.2.2.2.1, bk.2.2.2.2.1, bk.2.2.2.2.2.1, fun q => absurd rfl q, ⟨fun q => absurd q c.1, fun q => by omega⟩⟩
    · unfold PS
      rw [e0, e1, e2]
      simp only [hT]
      exact ⟨fun q => absurd rfl q, fun _ => psx⟩
    · refine tk_of hj10 (rd 2 (by omega) (by omega) (by omega) (by omega)) (rd _ (by unfold sOp; omega) (by unfold sOp; omega) (by unfold sOp; omega) (by unfold sOp; omega)) (fun q => (hop q).1) ?_ ?_
      · rcases (show j % 2 = 0 ∨ j % 2 = 1 by omega) with z | z
        · rw [z, Nat.add_zero] at ev hvl
          rw [ev, rd (8 + 2 * (j / 2) + 1) (by omega) (by omega) (by omega) (by omega)]
          omega
        · rw [z] at ev hvl
          rw [ev, rd (8 + 2 * (j / 2)) (by omega) (by omega) (by omega) (by omega)]
          omega
      · intro q _
        have h0 := (hop q).2
        rw [q, if_pos rfl] at hv
        rcases (show j % 2 = 0 ∨ j % 2 = 1 by omega) with z | z
        · rw [z, Nat.add_zero] at ev hv h0
          rw [ev, rd (8 + 2 * (j / 2) + 1) (by omega) (by omega) (by omega) (by omega)]
          omega
        · rw [z] at ev hv h0
          rw [ev, rd (8 + 2 * (j / 2)) (by omega) (by omega) (by omega) (by omega)]
          omega
  · exact I
theorem i_refuse (I : Inv M S) (hr : S 80 < 2147483647) {j : Nat} (hj : j + 2 < 2 * S 1) : Inv M (sRefuse S j).2 := by
  have bx := I.bx
  have hj10 : j < 10 := by omega
  unfold sRefuse
  split
  · exact I
  · have bk := I.bk hj10
    have ps := I.ps hj10
    have e1 : sB (su S (30 + 5 * j + 1) NN) j 1 = NN := su_at _ _ _
    have e0 : sB (su S (30 + 5 * j + 1) NN) j 0 = sB S j 0 := su_ne (by omega)
    have e2 : sB (su S (30 + 5 * j + 1) NN) j 2 = sB S j 2 := su_ne (by omega)
    have e3 : sB (su S (30 + 5 * j + 1) NN) j 3 = sB S j 3 := su_ne (by omega)
    have e4 : sB (su S (30 + 5 * j + 1) NN) j 4 = sB S j 4 := su_ne (by omega)
    have en : su S (30 + 5 * j + 1) NN 381 = S 381 := su_ne (by omega)
    have hT : ∀ t w, sT (su S (30 + 5 * j + 1) NN) t w = sT S t w := fun t w => su_ne (by omega)
    refine i_ring (i_blk I hj10 (su_lt I.1 (by decide)) (fun i q => su_ne (by omega)) ?_ ?_ (fun q => by omega)) (by rw [su_ne (by omega)]; exact hr) hj10 (sAh_lt hj10) (by decide)
    · unfold BK
      rw [e0, e1, e2, e3, e4, en]
      exact ⟨bk.1, Or.inl rfl, bk.2.2.1, bk.2.2.2.1, bk.2.2.2.2.1, bk.2.2.2.2.2.1, fun q => absurd rfl q, bk.2.2.2.2.2.2.2⟩
    · unfold PS
      rw [e0, e1, e2]
      simp only [hT]
      exact ⟨fun q => absurd rfl q, ps.2⟩
theorem i_offer (I : Inv M S) (hr : S 80 < 2147483647) {t : Nat} (ht : t < S 381) : Inv M (sOffer S t).2 := by
  have bx := I.bx
  have tn := I.tn
  have tr := I.tr ht
  unfold sOffer
  split
  · rename_i c
    cases e : sNx S (sT S t 3) (sT S t 1) with
    | none => exact I
    | some j =>
      obtain ⟨j1, j2, j3, j4, j5⟩ := m_nxj (by omega) e
      have hj10 : j < 10 := by omega
      dsimp only
      split
      · rename_i c1
        have bk := I.bk hj10
        have ps := I.ps hj10
        have e1 : sB (su S (30 + 5 * j + 1) t) j 1 = t := su_at _ _ _
        have e0 : sB (su S (30 + 5 * j + 1) t) j 0 = sB S j 0 := su_ne (by omega)
        have e2 : sB (su S (30 + 5 * j + 1) t) j 2 = sB S j 2 := su_ne (by omega)
        have e3 : sB (su S (30 + 5 * j + 1) t) j 3 = sB S j 3 := su_ne (by omega)
        have e4 : sB (su S (30 + 5 * j + 1) t) j 4 = sB S j 4 := su_ne (by omega)
        have en : su S (30 + 5 * j + 1) t 381 = S 381 := su_ne (by omega)
        have hT : ∀ t' w, sT (su S (30 + 5 * j + 1) t) t' w = sT S t' w := fun t' w => su_ne (by omega)
        refine i_ring (i_blk I hj10 (su_lt I.1 (by omega)) (fun i q => su_ne (by omega)) ?_ ?_ (fun q => by omega)) (by rw [su_ne (by omega)]; exact hr) hj10 (sRr_lt hj10) (sCo_lt _)
        · unfold BK
          rw [e0, e1, e2, e3, e4, en]
          exact ⟨bk.1, Or.inr ht, bk.2.2.1, bk.2.2.2.1, bk.2.2.2.2.1, bk.2.2.2.2.2.1, fun _ => c1.1, bk.2.2.2.2.2.2.2⟩
        · unfold PS
          rw [e0, e1, e2]
          simp only [hT]
          refine ⟨fun _ => ⟨c, ?_, j3.symm⟩, ps.2⟩
          unfold sRr
          omega
      · exact I
  · exact I
theorem i_assist (I : Inv M S) (hr : S 80 < 2147483647) {j : Nat} (hj : j + 2 < 2 * S 1) : Inv M (sAssist S j).2 := by
  have bx := I.bx
  have hj10 : j < 10 := by omega
  unfold sAssist
  split
  · rename_i c
    have bk := I.bk hj10
    have ps := I.ps hj10
    have sc := I.sc (show j / 2 < 5 by omega)
    have e1 : ∀ w, w < 4 → sB (su S (30 + 5 * j + 4) (2 * S (3 + j / 2))) j w = sB S j w := fun w hw => su_ne (by omega)
    have e4 : sB (su S (30 + 5 * j + 4) (2 * S (3 + j / 2))) j 4 = 2 * S (3 + j / 2) := su_at _ _ _
    have en : su S (30 + 5 * j + 4) (2 * S (3 + j / 2)) 381 = S 381 := su_ne (by omega)
    have hT : ∀ t' w, sT (su S (30 + 5 * j + 4) (2 * S (3 + j / 2))) t' w = sT S t' w := fun t' w => su_ne (by omega)
    refine i_ring (i_blk I hj10 (su_lt I.1 (by omega)) (fun i q => su_ne (by omega)) ?_ ?_ (fun q => e1 1 (by decide))) (by rw [su_ne (by omega)]; exact hr) hj10 (sRr_lt hj10) (by decide)
    · unfold BK
      rw [e1 0 (by decide), e1 1 (by decide), e1 2 (by decide), e1 3 (by decide), e4, en]
      exact ⟨bk.1, bk.2.1, bk.2.2.1, bk.2.2.2.1, by omega, fun _ => by omega, bk.2.2.2.2.2.2.1, bk.2.2.2.2.2.2.2⟩
    · unfold PS
      rw [e1 0 (by decide), e1 1 (by decide), e1 2 (by decide)]
      simp only [hT]
      exact ps
  · exact I
end
