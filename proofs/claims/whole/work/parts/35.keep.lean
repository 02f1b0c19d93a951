/-! What the steps keep; a tick of automatic working on the row. -/
def K0 (S S' : Sm) : Prop := S' 0 = S 0 ∧ S' 1 = S 1 ∧ S' 381 = S 381 ∧ S' 80 = S 80
def Kp (S S' : Sm) : Prop := S' 0 = S 0 ∧ S' 1 = S 1 ∧ S' 381 = S 381 ∧ S' 80 ≤ S 80 + 1
def sAns (S : Sm) (j : Nat) : Nat × Sm := if (sAccept S j).1 = NP then sRefuse S j else sAccept S j
def sIt (op : Sm → Nat → Nat × Sm) (S : Sm) : Nat → Sm
  | 0 => S
  | n + 1 => (op (sIt op S n) n).2
def sLc (S : Sm) : Nat → Nat
  | 0 => 0
  | n + 1 => sLc S n + (if (sLeave (sIt sLeave S n) n).1 = NP then 0 else 1)
def sQ1 (S : Sm) : Sm := sIt sOut S (2 * (S 1 - 1))
def sQ2 (S : Sm) : Sm := sIt sAssist (sQ1 S) (2 * (S 1 - 1))
def sQ3 (S : Sm) : Sm := sIt sAdmit (sQ2 S) (2 * (S 1 - 1))
def sQ4 (S : Sm) : Sm := sIt sLeave (sQ3 S) (S 381)
def sQ5 (S : Sm) : Sm := sIt sOffer (sQ4 S) (S 381)
def sQ6 (S : Sm) : Sm := sIt sAns (sQ5 S) (2 * (S 1 - 1))
def sQ7 (S : Sm) : Sm := sIt sDepart (sQ6 S) (S 381)
def sWk (S : Sm) : Sm := sPass (sQ7 S) 1
def sWl (S : Sm) : Nat := sLc (sQ3 S) (S 381)
/-- of S' after i steps from S -/
def Ok (M : Nat) (S' S : Sm) (i : Nat) : Prop := Inv M S' ∧ S' 0 = S 0 ∧ S' 1 = S 1 ∧ S' 381 = S 381 ∧ S' 80 ≤ S 80 + i
section
variable {S S' : Sm} {M : Nat}
theorem K0.rf : K0 S S := ⟨rfl, rfl, rfl, rfl⟩
theorem Kp.rf : Kp S S := ⟨rfl, rfl, rfl, Nat.le_succ _⟩
theorem K0.kp (h : K0 S S') : Kp S S' := ⟨h.1, h.2.1, h.2.2.1, by rw [h.2.2.2]; exact Nat.le_succ _⟩
theorem K0.su (h : K0 S S') {i v : Nat} (hi : i ≠ 0 ∧ i ≠ 1 ∧ i ≠ 381 ∧ i ≠ 80) : K0 S (su S' i v) := by
  obtain ⟨h1, h2, h3, h4⟩ := h
  refine ⟨?_, ?_, ?_, ?_⟩
  · rw [su_ne (by omega)]; exact h1
  · rw [su_ne (by omega)]; exact h2
  · rw [su_ne (by omega)]; exact h3
  · rw [su_ne (by omega)]; exact h4
theorem K0.ring (h : K0 S S') {j x c : Nat} : Kp S (sRing S' j x c) := by
  obtain ⟨h1, h2, h3, h4⟩ := h
  refine ⟨?_, ?_, ?_, ?_⟩
  · rw [sRing_ne (by omega)]; exact h1
  · rw [sRing_ne (by omega)]; exact h2
  · rw [sRing_ne (by omega)]; exact h3
  · rw [sRing_80, h4]; exact Nat.le_refl _
theorem k_lift {j : Nat} (hj : j < 10) : Kp S (sLift S j).2 := by
  unfold sLift; split
  · exact (K0.rf.su (by omega)).ring
  · exact Kp.rf
theorem k_offer (I : Inv M S) {t : Nat} (ht : t < S 381) : Kp S (sOffer S t).2 := by
  have bx := I.bx
  have tr := I.tr ht
  unfold sOffer; split
  · cases e : sNx S (sT S t 3) (sT S t 1) with
    | none => exact Kp.rf
    | some j =>
      have := m_nxj (by omega) e
      dsimp only; split
      · exact (K0.rf.su (by omega)).ring
      · exact Kp.rf
  · exact Kp.rf
theorem k_refuse {j : Nat} (hj : j < 10) : Kp S (sRefuse S j).2 := by
  unfold sRefuse; split
  · exact Kp.rf
  · exact (K0.rf.su (by omega)).ring
theorem k_accept {j : Nat} (hj : j < 10) : Kp S (sAccept S j).2 := by
  unfold sAccept; split
  · exact ((((K0.rf.su (by omega)).su (by omega)).su (by omega)).su (by omega)).ring
  · exact Kp.rf
theorem k_ans {j : Nat} (hj : j < 10) : Kp S (sAns S j).2 := by
  unfold sAns; split
  · exact k_refuse hj
  · exact k_accept hj
theorem k_unc {j : Nat} (hj : j < 10) (h : K0 S S') : K0 S (sUnc S' j) := by
  unfold sUnc; split
  · exact (h.su (by omega)).su (by omega)
  · exact h
theorem k_cancel {j : Nat} (hj : j < 10) : Kp S (sCancel S j).2 := by
  unfold sCancel; split
  · exact Kp.rf
  · exact ((k_unc hj (K0.rf.su (by omega))).su (by omega)).ring
theorem k_obst {j : Nat} (hj : j < 10) : Kp S (sObst S j).2 := by
  unfold sObst; split
  · exact (((k_unc hj K0.rf).su (by omega)).su (by omega)).ring
  · exact Kp.rf
theorem k_depart (I : Inv M S) {t : Nat} (ht : t < S 381) : Kp S (sDepart S t).2 := by
  have bx := I.bx
  have tr := I.tr ht
  unfold sDepart; split
  · cases e : sNx S (sT S t 3) (sT S t 1) with
    | none => exact Kp.rf
    | some j =>
      have := m_nxj (by omega) e
      dsimp only; split
      · exact ((((K0.rf.su (by omega)).su (by omega)).su (by omega)).su (by omega)).ring
      · exact Kp.rf
  · exact Kp.rf
theorem k_admit {j : Nat} : Kp S (sAdmit S j).2 := by
  unfold sAdmit; split
  · exact ((K0.rf.su (by omega)).su (by omega)).kp
  · exact Kp.rf
theorem k_out {j : Nat} (hj : j < 10) : Kp S (sOut S j).2 := by
  unfold sOut; split
  · exact (((K0.rf.su (by omega)).su (by omega)).su (by omega)).ring
  · exact Kp.rf
theorem k_assist {j : Nat} (hj : j < 10) : Kp S (sAssist S j).2 := by
  unfold sAssist; split
  · exact (K0.rf.su (by omega)).ring
  · exact Kp.rf
theorem k_leave {t : Nat} : Kp S (sLeave S t).2 := by
  unfold sLeave; split
  · exact (((K0.rf.su (by omega)).su (by omega)).su (by omega)).kp
  · exact Kp.rf
theorem k_divide (I : Inv M S) {t : Nat} (ht : t < S 381) : Kp S (sDivide S t).2 := by
  have bx := I.bx
  have tr := I.tr ht
  unfold sDivide; split
  · rename_i c
    have := tr.2.2.2.2.2.1 c.1
    exact ((K0.rf.su (by omega)).su (by omega)).kp
  · exact Kp.rf
theorem k_shunt {t : Nat} : Kp S (sShunt S t).2 := by
  unfold sShunt
  repeat' split
  all_goals first | exact Kp.rf | exact (K0.rf.su (by omega)).kp
theorem i_ans (I : Inv M S) (hr : S 80 < 2147483647) {j : Nat} (hj : j + 2 < 2 * S 1) : Inv M (sAns S j).2 := by
  unfold sAns; split
  · exact i_refuse I hr hj
  · exact i_accept I hr hj
theorem Ok.tr {S1 S2 S3 : Sm} {a b : Nat} (h : Ok M S2 S1 a) (h2 : Ok M S3 S2 b) : Ok M S3 S1 (a + b) := by
  obtain ⟨a1, a2, a3, a4, a5⟩ := h
  obtain ⟨b1, b2, b3, b4, b5⟩ := h2
  exact ⟨b1, by rw [b2, a2], by rw [b3, a3], by rw [b4, a4], by omega⟩
theorem ph_it {op : Sm → Nat → Nat × Sm} {m : Nat} (I : Inv M S) (hr : S 80 + m < 2147483647) (ho : ∀ S' j, Inv M S' → S' 1 = S 1 → S' 381 = S 381 → S' 80 < 2147483647 → j < m → Inv M (op S' j).2 ∧ Kp S' (op S' j).2) : ∀ i, i ≤ m → Ok M (sIt op S i) S i := by
  intro i
  induction i with
  | zero => exact fun _ => ⟨I, rfl, rfl, rfl, Nat.le_refl _⟩
  | succ i ih =>
    intro hi
    obtain ⟨a1, a2, a3, a4, a5⟩ := ih (by omega)
    obtain ⟨b1, b2, b3, b4, b5⟩ := ho (sIt op S i) i a1 a3 a4 (by omega) (by omega)
    exact ⟨b1, b2.trans a2, b3.trans a3, b4.trans a4, Nat.le_trans b5 (by omega)⟩
theorem ph_blk {op : Sm → Nat → Nat × Sm} (I : Inv M S) (hr : S 80 + 10 < 2147483647) (ho : ∀ S' j, Inv M S' → S' 80 < 2147483647 → j + 2 < 2 * S' 1 → Inv M (op S' j).2 ∧ Kp S' (op S' j).2) : ∀ i, i ≤ 2 * (S 1 - 1) → Ok M (sIt op S i) S i := by
  have bx := I.bx
  exact ph_it I (by omega) fun S' j I' e1 e2 e3 hj => ho S' j I' e3 (by omega)
theorem ph_trn {op : Sm → Nat → Nat × Sm} (I : Inv M S) (hr : S 80 + 305 < 2147483647) (ho : ∀ S' t, Inv M S' → S' 80 < 2147483647 → t < S' 381 → Inv M (op S' t).2 ∧ Kp S' (op S' t).2) : ∀ i, i ≤ S 381 → Ok M (sIt op S i) S i := by
  have tn := I.tn
  exact ph_it I (by omega) fun S' j I' e1 e2 e3 hj => ho S' j I' e3 (by omega)
theorem blk_lt (I : Inv M S) {j : Nat} (h : j + 2 < 2 * S 1) : j < 10 := by have := I.bx; omega
theorem ho_out (S' : Sm) (j : Nat) (I : Inv M S') (hr : S' 80 < 2147483647) (hj : j + 2 < 2 * S' 1) : Inv M (sOut S' j).2 ∧ Kp S' (sOut S' j).2 := ⟨i_out I hr hj, k_out (blk_lt I hj)⟩
theorem ho_assist (S' : Sm) (j : Nat) (I : Inv M S') (hr : S' 80 < 2147483647) (hj : j + 2 < 2 * S' 1) : Inv M (sAssist S' j).2 ∧ Kp S' (sAssist S' j).2 := ⟨i_assist I hr hj, k_assist (blk_lt I hj)⟩
theorem ho_admit (S' : Sm) (j : Nat) (I : Inv M S') (hr : S' 80 < 2147483647) (hj : j + 2 < 2 * S' 1) : Inv M (sAdmit S' j).2 ∧ Kp S' (sAdmit S' j).2 := ⟨i_admit I hj, k_admit⟩
theorem ho_ans (S' : Sm) (j : Nat) (I : Inv M S') (hr : S' 80 < 2147483647) (hj : j + 2 < 2 * S' 1) : Inv M (sAns S' j).2 ∧ Kp S' (sAns S' j).2 := ⟨i_ans I hr hj, k_ans (blk_lt I hj)⟩
theorem ho_leave (S' : Sm) (t : Nat) (I : Inv M S') (hr : S' 80 < 2147483647) (ht : t < S' 381) : Inv M (sLeave S' t).2 ∧ Kp S' (sLeave S' t).2 := ⟨i_leave I ht, k_leave⟩
theorem ho_offer (S' : Sm) (t : Nat) (I : Inv M S') (hr : S' 80 < 2147483647) (ht : t < S' 381) : Inv M (sOffer S' t).2 ∧ Kp S' (sOffer S' t).2 := ⟨i_offer I hr ht, k_offer I ht⟩
theorem ho_depart (S' : Sm) (t : Nat) (I : Inv M S') (hr : S' 80 < 2147483647) (ht : t < S' 381) : Inv M (sDepart S' t).2 ∧ Kp S' (sDepart S' t).2 := ⟨i_depart I hr ht, k_depart I ht⟩
theorem Ok.le {a b : Nat} (h : Ok M S' S a) (hb : a ≤ b) : Ok M S' S b := ⟨h.1, h.2.1, h.2.2.1, h.2.2.2.1, Nat.le_trans h.2.2.2.2 (by omega)⟩
theorem ok_1 (I : Inv M S) (hr : S 80 + 1000 < 2147483647) : Ok M (sQ1 S) S 10 := by
  have bx := I.bx
  exact (ph_blk I (by omega) ho_out _ (Nat.le_refl _)).le (by omega)
theorem ok_2 (I : Inv M S) (hr : S 80 + 1000 < 2147483647) : Ok M (sQ2 S) S 20 := by
  have bx := I.bx
  have h := ok_1 I hr
  refine Ok.tr (b := 10) h ((ph_blk h.1 (by have := h.2.2.2.2; omega) ho_assist (2 * (S 1 - 1)) ?_).le ?_)
  · rw [h.2.2.1]; exact Nat.le_refl _
  · omega
theorem ok_3 (I : Inv M S) (hr : S 80 + 1000 < 2147483647) : Ok M (sQ3 S) S 30 := by
  have bx := I.bx
  have h := ok_2 I hr
  refine Ok.tr (b := 10) h ((ph_blk h.1 (by have := h.2.2.2.2; omega) ho_admit (2 * (S 1 - 1)) ?_).le ?_)
  · rw [h.2.2.1]; exact Nat.le_refl _
  · omega
theorem ok_4 (I : Inv M S) (hr : S 80 + 1000 < 2147483647) : Ok M (sQ4 S) S 335 := by
  have tn := I.tn
  have h := ok_3 I hr
  refine Ok.tr (b := 305) h ((ph_trn h.1 (by have := h.2.2.2.2; omega) ho_leave (S 381) ?_).le ?_)
  · rw [h.2.2.2.1]; exact Nat.le_refl _
  · omega
theorem ok_5 (I : Inv M S) (hr : S 80 + 1000 < 2147483647) : Ok M (sQ5 S) S 640 := by
  have tn := I.tn
  have h := ok_4 I hr
  refine Ok.tr (b := 305) h ((ph_trn h.1 (by have := h.2.2.2.2; omega) ho_offer (S 381) ?_).le ?_)
  · rw [h.2.2.2.1]; exact Nat.le_refl _
  · omega
theorem ok_6 (I : Inv M S) (hr : S 80 + 1000 < 2147483647) : Ok M (sQ6 S) S 650 := by
  have bx := I.bx
  have h := ok_5 I hr
  refine Ok.tr (b := 10) h ((ph_blk h.1 (by have := h.2.2.2.2; omega) ho_ans (2 * (S 1 - 1)) ?_).le ?_)
  · rw [h.2.2.1]; exact Nat.le_refl _
  · omega
theorem ok_7 (I : Inv M S) (hr : S 80 + 1000 < 2147483647) : Ok M (sQ7 S) S 955 := by
  have tn := I.tn
  have h := ok_6 I hr
  refine Ok.tr (b := 305) h ((ph_trn h.1 (by have := h.2.2.2.2; omega) ho_depart (S 381) ?_).le ?_)
  · rw [h.2.2.2.1]; exact Nat.le_refl _
  · omega
theorem ok_wk (I : Inv M S) (hr : S 80 + 1000 < 2147483647) (h0 : S 0 < 2147483647) : Inv M (sWk S) ∧ sWk S 0 = S 0 + 1 ∧ sWk S 1 = S 1 ∧ sWk S 381 = S 381 ∧ sWk S 80 ≤ S 80 + 1000 := by
  obtain ⟨a1, a2, a3, a4, a5⟩ := ok_7 I hr
  have bx := a1.bx
  unfold sWk
  refine ⟨i_pass a1 (by omega), by rw [sPass_0, a2], ?_, ?_, ?_⟩
  · rw [sPass_o (by omega) (by omega) (by omega)]; exact a3
  · rw [sPass_o (by omega) (by omega) (by omega)]; exact a4
  · rw [sPass_o (by omega) (by omega) (by omega)]; omega
end
/-- a loop, step by step -/
theorem lp {σ β : Type} {P : Nat → σ → Prop} {h : Nat → Int32 → σ → Option β} {m : Nat} (hs : ∀ i f s, i < m → P i s → ∃ s1, h (f + 1) (nI i) s = h f (nI (i + 1)) s1 ∧ P (i + 1) s1) : ∀ k i f s, i + k = m → k ≤ f → P i s → ∃ s1, h f (nI i) s = h (f - k) (nI m) s1 ∧ P m s1 := by
  intro k
  induction k with
  | zero =>
    intro i f s hi hf hP
    have : i = m := by omega
    subst this
    exact ⟨s, rfl, hP⟩
  | succ k ih =>
    intro i f s hi hf hP
    obtain ⟨g, rfl⟩ : ∃ g, f = g + 1 := ⟨f - 1, by omega⟩
    obtain ⟨s1, e1, p1⟩ := hs i g s (by omega) hP
    obtain ⟨s2, e2, p2⟩ := ih (i + 1) g s1 (by omega) (by omega) p1
    exact ⟨s2, by rw [e1, e2]; congr 1; omega, p2⟩
