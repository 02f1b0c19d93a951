section
variable {S S' : Sm} {M : Nat}
theorem su_at' {i v k : Nat} (h : k = i) : su S i v k = v := by rw [h]; exact su_at _ _ _
/-- a block's state is no longer clear nor occupied, its token is back at end e -/
theorem i_free (I : Inv M S) (hr : S 80 < 2147483647) {j v : Nat} (hj : j + 2 < 2 * S 1) (hv : v = 0 ∨ v = 3) {Z : Sm} (hlt : ∀ k, Z k < 4294967296) (h : ∀ i, ¬ (30 + 5 * j ≤ i ∧ i ≤ 30 + 5 * j + 2) → ¬ (8 + 2 * (j / 2) ≤ i ∧ i ≤ 8 + 2 * (j / 2) + 1) → Z i = S i) (e0 : sB Z j 0 = v) (e1 : sB Z j 1 = NN) (e2 : sB Z j 2 = NN) (h10 : Z (8 + 2 * (j / 2)) + Z (8 + 2 * (j / 2) + 1) ≤ 10) (hop : sSg S (j / 2) = true → sOn S (sOp j) = false) : Inv M Z := by
  have bx := I.bx
  have hj10 : j < 10 := by omega
  have bk := I.bk hj10
  have e3 : sB Z j 3 = sB S j 3 := h _ (by omega) (by omega)
  have e4 : sB Z j 4 = sB S j 4 := h _ (by omega) (by omega)
  refine i_blk2 I hj hlt (fun i q1 q2 => h i (by omega) q2) ?_ ?_ ?_
  · unfold BK
    rw [e0, e1, e2, e3, e4]
    refine ⟨by omega, Or.inl rfl, Or.inl rfl, bk.2.2.2.1, bk.2.2.2.2.1, bk.2.2.2.2.2.1, fun q => absurd rfl q, ⟨fun _ => hv, fun _ => rfl⟩⟩
  · unfold PS
    rw [e0, e1]
    exact ⟨fun q => absurd rfl q, fun q => by omega⟩
  · refine tk_of hj10 (h 2 (by omega) (by omega)) (h _ (by unfold sOp; omega) (by unfold sOp; omega)) hop h10 (fun _ q => ?_)
    unfold sOn at q
    rw [e0] at q
    rcases hv with rfl | rfl <;> simp at q
/-- no block of the section is on: the other side may be anything -/
theorem i_free0 (I : Inv M S) {j v : Nat} (hj : j + 2 < 2 * S 1) (hv : v = 0 ∨ v = 3) {Z : Sm} (hlt : ∀ k, Z k < 4294967296) (h : ∀ i, ¬ (30 + 5 * j ≤ i ∧ i ≤ 30 + 5 * j + 2) → Z i = S i) (e0 : sB Z j 0 = v) (e1 : sB Z j 1 = NN) (e2 : sB Z j 2 = NN) (hoff : sOn S j = false) : Inv M Z := by
  have bx := I.bx
  have hj10 : j < 10 := by omega
  have bk := I.bk hj10
  have sc := I.sc (show j / 2 < 5 by omega)
  have e3 : sB Z j 3 = sB S j 3 := h _ (by omega)
  have e4 : sB Z j 4 = sB S j 4 := h _ (by omega)
  have on : ∀ j', j' < 10 → sOn Z j' = sOn S j' := by
    intro j' hj'
    by_cases q : j' = j
    · rw [q, hoff]
      unfold sOn
      rw [e0]
      rcases hv with rfl | rfl <;> rfl
    · unfold sOn
      rw [show sB Z j' 0 = sB S j' 0 from h _ (by omega)]
  refine i_blk2 I hj hlt (fun i q1 q2 => h i (by omega)) ?_ ?_ ?_
  · unfold BK
    rw [e0, e1, e2, e3, e4]
    refine ⟨by omega, Or.inl rfl, Or.inl rfl, bk.2.2.2.1, bk.2.2.2.2.1, bk.2.2.2.2.2.1, fun q => absurd rfl q, ⟨fun _ => hv, fun _ => rfl⟩⟩
  · unfold PS
    rw [e0, e1]
    exact ⟨fun q => absurd rfl q, fun q => by omega⟩
  · unfold TK sTo
    rw [on (2 * (j / 2)) (by omega), on (2 * (j / 2) + 1) (by omega), sSg_of (h 2 (by omega)), h (8 + 2 * (j / 2)) (by omega), h (8 + 2 * (j / 2) + 1) (by omega)]
    exact sc.2.2
/-- on and single: the tokens at the boxes are nine at most -/
theorem to_nine (I : Inv M S) {j : Nat} (hj : j < 10) (h : sOn S j = true) (q : sSg S (j / 2) = true) : S (8 + 2 * (j / 2)) + S (8 + 2 * (j / 2) + 1) ≤ 9 := by
  apply (I.sc (show j / 2 < 5 by omega)).2.2.2.1
  unfold sTo
  rw [q]
  rcases (show j = 2 * (j / 2) ∨ j = 2 * (j / 2) + 1 by omega) with z | z
  · have : sOn S (2 * (j / 2)) = true := by rw [← z]; exact h
    rw [this]; rfl
  · have : sOn S (2 * (j / 2) + 1) = true := by rw [← z]; exact h
    rw [this]; simp
theorem i_out (I : Inv M S) (hr : S 80 < 2147483647) {j : Nat} (hj : j + 2 < 2 * S 1) : Inv M (sOut S j).2 := by
  have bx := I.bx
  have hj10 : j < 10 := by omega
  unfold sOut
  split
  · rename_i c
    have sc := I.sc (show j / 2 < 5 by omega)
    have on1 : sOn S j = true := by unfold sOn; rw [c.1]; rfl
    generalize hv : S (8 + 2 * (j / 2) + (1 - j % 2)) + (if sSg S (j / 2) = true then 1 else 0) = v
    have hv10 : v ≤ 10 := by
      rw [← hv]
      cases cs : sSg S (j / 2) with
      | false =>
        rcases (show j % 2 = 0 ∨ j % 2 = 1 by omega) with z | z <;> rw [z] <;> simp <;> omega
      | true =>
        have := to_nine I hj10 on1 cs
        rcases (show j % 2 = 0 ∨ j % 2 = 1 by omega) with z | z <;> rw [z] <;> simp <;> omega
    refine i_ring (i_free I hr hj (v := 0) (Or.inl rfl) (su_lt (su_lt (su_lt I.1 (by decide)) (by decide)) (by omega)) (fun i q1 q2 => by rw [su_ne (by omega), su_ne (by omega), su_ne (by omega)]) ?_ ?_ ?_ ?_ (op_off I hj10 on1)) (by rw [su_ne (by omega), su_ne (by omega), su_ne (by omega)]; exact hr) hj10 (sAh_lt hj10) (by decide)
    · show su _ _ _ _ = _
      rw [su_ne (by omega), su_ne (by omega), su_at]
    · show su _ _ _ _ = _
      rw [su_ne (by omega), su_ne (by omega), su_ne (by omega)]
      by_cases w : sB S j 1 = NN
      · exact w
      · have := (I.bk hj10).2.2.2.2.2.2.1 w
        omega
    · show su _ _ _ _ = _
      rw [su_ne (by omega), su_at]
    · have n9 : sSg S (j / 2) = true → S (8 + 2 * (j / 2)) + S (8 + 2 * (j / 2) + 1) ≤ 9 := fun q => to_nine I hj10 on1 q
      rcases (show j % 2 = 0 ∨ j % 2 = 1 by omega) with z | z
      · rw [z] at hv ⊢
        rw [show (1 - 0 : Nat) = 1 from rfl] at hv ⊢
        rw [su_at, su_ne (by omega), su_ne (by omega), su_ne (by omega)]
        cases cs : sSg S (j / 2) with
        | false => rw [cs] at hv; simp at hv; omega
        | true => have := n9 cs; rw [cs] at hv; simp at hv; omega
      · rw [z] at hv ⊢
        rw [show (1 - 1 : Nat) = 0 from rfl] at hv ⊢
        rw [Nat.add_zero] at hv
        rw [su_at' (show 8 + 2 * (j / 2) = 8 + 2 * (j / 2) + 0 by omega), su_ne (by omega), su_ne (by omega), su_ne (by omega)]
        cases cs : sSg S (j / 2) with
        | false => rw [cs] at hv; simp at hv; omega
        | true => have := n9 cs; rw [cs] at hv; simp at hv; omega
  · exact I
/-- a block that is clear or free goes to v -/
theorem i_unc (I : Inv M S) (hr : S 80 < 2147483647) {j v : Nat} (hj : j + 2 < 2 * S 1) (hv : v = 0 ∨ v = 3) (h1 : sB S j 0 = 1 ∨ sB S j 0 = 0) : Inv M (su (su (sUnc S j) (30 + 5 * j + 1) NN) (30 + 5 * j + 0) v) := by
  have bx := I.bx
  have hj10 : j < 10 := by omega
  have bk := I.bk hj10
  have sc := I.sc (show j / 2 < 5 by omega)
  by_cases c : sB S j 0 = 1
  · have on1 : sOn S j = true := by unfold sOn; rw [c]; rfl
    unfold sUnc
    rw [if_pos c]
    generalize hw : S (8 + 2 * (j / 2) + j % 2) + (if sSg S (j / 2) = true then 1 else 0) = w
    have n9 : sSg S (j / 2) = true → S (8 + 2 * (j / 2)) + S (8 + 2 * (j / 2) + 1) ≤ 9 := fun q => to_nine I hj10 on1 q
    have hw10 : w ≤ 10 := by
      rw [← hw]
      cases cs : sSg S (j / 2) with
      | false => rcases (show j % 2 = 0 ∨ j % 2 = 1 by omega) with z | z <;> rw [z] <;> simp <;> omega
      | true => have := n9 cs; rcases (show j % 2 = 0 ∨ j % 2 = 1 by omega) with z | z <;> rw [z] <;> simp <;> omega
    refine i_free I hr hj hv (su_lt (su_lt (su_lt (su_lt I.1 (by decide)) (by omega)) (by decide)) (by omega)) (fun i q1 q2 => by rw [su_ne (by omega), su_ne (by omega), su_ne (by omega), su_ne (by omega)]) (su_at _ _ _) ?_ ?_ ?_ (op_off I hj10 on1)
    · show su _ _ _ _ = _
      rw [su_ne (by omega), su_at]
    · show su _ _ _ _ = _
      rw [su_ne (by omega), su_ne (by omega), su_ne (by omega), su_at]
    · rcases (show j % 2 = 0 ∨ j % 2 = 1 by omega) with z | z
      · rw [z] at hw ⊢
        rw [Nat.add_zero] at hw
        rw [su_ne (by omega), su_ne (by omega), su_at' (show 8 + 2 * (j / 2) = 8 + 2 * (j / 2) + 0 by omega), su_ne (by omega), su_ne (by omega), su_ne (by omega), su_ne (by omega)]
        cases cs : sSg S (j / 2) with
        | false => rw [cs] at hw; simp at hw; omega
        | true => have := n9 cs; rw [cs] at hw; simp at hw; omega
      · rw [z] at hw ⊢
        rw [su_ne (by omega), su_ne (by omega), su_ne (by omega), su_ne (by omega), su_ne (by omega), su_ne (by omega), su_at]
        cases cs : sSg S (j / 2) with
        | false => rw [cs] at hw; simp at hw; omega
        | true => have := n9 cs; rw [cs] at hw; simp at hw; omega
  · have eu : sUnc S j = S := by unfold sUnc; rw [if_neg c]
    rw [eu]
    refine i_free0 I hj hv (su_lt (su_lt I.1 (by decide)) (by omega)) (fun i q => by rw [su_ne (by omega), su_ne (by omega)]) (su_at _ _ _) ?_ ?_ ?_
    · show su _ _ _ _ = _
      rw [su_ne (by omega), su_at]
    · show su _ _ _ _ = _
      rw [su_ne (by omega), su_ne (by omega)]
      exact bk.2.2.2.2.2.2.2.mpr (Or.inl (by omega))
    · unfold sOn
      rw [show sB S j 0 = 0 by omega]; rfl
theorem i_obst (I : Inv M S) (hr : S 80 < 2147483647) {j : Nat} (hj : j + 2 < 2 * S 1) : Inv M (sObst S j).2 := by
  have bx := I.bx
  have hj10 : j < 10 := by omega
  unfold sObst
  split
  · rename_i c
    exact i_ring (i_unc I hr hj (Or.inr rfl) (by omega)) (by rw [su_ne (by omega), su_ne (by omega), sUnc_80 _ hj10]; exact hr) hj10 (sAh_lt hj10) (by decide)
  · exact I
theorem i_cancel (I : Inv M S) (hr : S 80 < 2147483647) {j : Nat} (hj : j + 2 < 2 * S 1) : Inv M (sCancel S j).2 := by
  have bx := I.bx
  have hj10 : j < 10 := by omega
  have bk := I.bk hj10
  unfold sCancel
  split
  · exact I
  · rename_i c
    have h01 : sB S j 0 = 1 ∨ sB S j 0 = 0 := by
      by_cases w : sB S j 1 = NN
      · left
        by_cases z : sB S j 0 = 1
        · exact z
        · exact absurd ⟨w, z⟩ c
      · exact Or.inr (bk.2.2.2.2.2.2.1 w)
    have es : su (sUnc (su S (30 + 5 * j + 1) NN) j) (30 + 5 * j + 0) 0 = su (su (sUnc S j) (30 + 5 * j + 1) NN) (30 + 5 * j + 0) 0 := by
      have e0 : sB (su S (30 + 5 * j + 1) NN) j 0 = sB S j 0 := su_ne (by omega)
      have e8 : su S (30 + 5 * j + 1) NN (8 + 2 * (j / 2) + j % 2) = S (8 + 2 * (j / 2) + j % 2) := su_ne (by omega)
      congr 1
      funext k
      rw [sUnc_at, e0, e8, sSg_su (by omega)]
      unfold su
      rw [sUnc_at]
      by_cases k1 : k = 30 + 5 * j + 1
      · rw [if_pos k1]
        split
        · rw [if_neg (by omega), if_neg (by omega)]
        · rfl
      · rw [if_neg k1, if_neg k1]
    rw [es]
    exact i_ring (i_unc I hr hj (Or.inl rfl) h01) (by rw [su_ne (by omega), su_ne (by omega), sUnc_80 _ hj10]; exact hr) hj10 (sRr_lt hj10) (by decide)
end
