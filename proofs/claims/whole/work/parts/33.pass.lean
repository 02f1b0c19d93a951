section
variable {G : Gm} {S : Sm} {l M : Nat}
theorem sP1_ne {x i k : Nat} (h : k < 382) : sP1 S x i k = S k := by unfold sP1; rw [if_neg (by omega)]
theorem sP1_0 {x : Nat} : sP1 S x 0 = S := by funext k; unfold sP1; rw [if_neg (by omega)]
theorem sP1_s {x i : Nat} : sP1 S x (i + 1) = su (sP1 S x i) (382 + 8 * i + 4) (if sT S i 2 = 2 then sT S i 4 - x else sT S i 4) := by
  funext k
  unfold su
  by_cases e : k = 382 + 8 * i + 4
  · rw [if_pos e, e]
    unfold sP1
    have : 382 + 8 * i + 4 - 2 = 382 + 8 * i + 2 := by omega
    rw [this]
    by_cases c : sT S i 2 = 2
    · rw [if_pos c, if_pos ⟨by omega, by omega, by omega, c⟩]
    · rw [if_neg c, if_neg (fun q => c q.2.2.2)]
  · rw [if_neg e]
    unfold sP1
    by_cases c : 382 ≤ k ∧ k < 382 + 8 * i ∧ (k - 382) % 8 = 4 ∧ S (k - 2) = 2
    · rw [if_pos c, if_pos ⟨c.1, by omega, c.2.2.1, c.2.2.2⟩]
    · rw [if_neg c, if_neg]
      rintro ⟨q1, q2, q3, q4⟩
      exact c ⟨q1, by omega, q3, q4⟩
theorem sP1_t {x i t w : Nat} (h : w ≠ 4) (hw : w < 8) : sT (sP1 S x i) t w = sT S t w := by
  show sP1 S x i (382 + 8 * t + w) = _
  unfold sP1
  rw [if_neg (by omega)]
theorem sP1_4 {x i t : Nat} (h : i ≤ t) : sT (sP1 S x i) t 4 = sT S t 4 := by
  show sP1 S x i (382 + 8 * t + 4) = _
  unfold sP1
  rw [if_neg (by omega)]
theorem sP2_0 {x : Nat} : sP2 S x 0 = S := by funext k; unfold sP2; rw [if_neg (by omega), if_neg (by omega)]
theorem sP2_ne {x i k : Nat} (h : k < 30 ∨ 30 + 5 * i ≤ k) : sP2 S x i k = S k := by unfold sP2; rw [if_neg (by omega), if_neg (by omega)]
theorem sP2_s {x i : Nat} : sP2 S x (i + 1) = su (su (sP2 S x i) (30 + 5 * i + 4) (sB S i 4 - x)) (30 + 5 * i + 3) (if 0 < sB S i 4 ∧ sB S i 4 ≤ x then 0 else sB S i 3) := by
  funext k
  unfold su
  by_cases e : k = 30 + 5 * i + 3
  · rw [if_pos e, e]
    unfold sP2
    rw [if_neg (by omega)]
    have : 30 + 5 * i + 3 + 1 = 30 + 5 * i + 4 := by omega
    rw [this]
    by_cases c : 0 < sB S i 4 ∧ sB S i 4 ≤ x
    · rw [if_pos c, if_pos ⟨by omega, by omega, by omega, c.1, c.2⟩]
    · rw [if_neg c, if_neg (fun q => c ⟨q.2.2.2.1, q.2.2.2.2⟩)]
  · rw [if_neg e]
    by_cases e4 : k = 30 + 5 * i + 4
    · rw [if_pos e4, e4]
      unfold sP2
      rw [if_pos (by omega)]
    · rw [if_neg e4]
      unfold sP2
      by_cases c : 30 ≤ k ∧ k < 30 + 5 * i ∧ (k - 30) % 5 = 4
      · rw [if_pos c, if_pos (by omega)]
      · rw [if_neg c, if_neg (by omega)]
        by_cases c2 : 30 ≤ k ∧ k < 30 + 5 * i ∧ (k - 30) % 5 = 3 ∧ 0 < S (k + 1) ∧ S (k + 1) ≤ x
        · rw [if_pos c2, if_pos ⟨c2.1, by omega, c2.2.2⟩]
        · rw [if_neg c2, if_neg]
          rintro ⟨q1, q2, q3, q4⟩
          exact c2 ⟨q1, by omega, q3, q4⟩
theorem sP2_b {x i j w : Nat} (h : i ≤ j) : sB (sP2 S x i) j w = sB S j w := sP2_ne (by omega)
/-- the reference's tick -/
theorem m_tick1 (h0 : MA G S) (I : Inv M S) : ∀ m i f : Nat, ∀ G' : Gm, i + m = S 381 → m < f → MA G' (sP1 S 1 i) → FrM G G' → ∃ G1, fX7_tick_h2 f (nI i) G' = fX7_tick_h69 6000 0 G1 ∧ MA G1 (sP1 S 1 (S 381)) ∧ FrM G G1 := by
  have tn := I.tn
  intro m
  induction m with
  | zero =>
    intro i f G' hi hf h hF
    obtain ⟨f, rfl⟩ : ∃ g, f = g + 1 := ⟨f - 1, by omega⟩
    have e := h 381 (by decide)
    rw [sP1_ne (by decide)] at e
    rw [fX7_tick_h2.eq_2, e, if_pos ((bs_le (by omega) (by omega)).mpr (by omega))]
    exact ⟨G', rfl, by rw [show S 381 = i by omega]; exact h, hF⟩
  | succ m ih =>
    intro i f G' hi hf h hF
    obtain ⟨f, rfl⟩ : ∃ g, f = g + 1 := ⟨f - 1, by omega⟩
    have hiS : i < S 381 := by omega
    have hi5 : i < 305 := by omega
    have tr := I.tr hiS
    have e := h 381 (by decide)
    rw [sP1_ne (by decide)] at e
    have e2 := m_t2 h hi5
    rw [sP1_t (by decide) (by decide)] at e2
    have e4 := m_t4 h hi5
    rw [sP1_4 (Nat.le_refl i)] at e4
    rw [fX7_tick_h2.eq_2, e, if_neg (by rw [bs_le (by omega) (by omega)]; omega)]
    have o4 : nI (sT S i 4) ≤ 0 ↔ sT S i 4 = 0 := by
      rw [show (0 : Int32) = nI 0 from rfl, bs_le (by omega) (by decide)]; omega
    simp only [e2, e4, gm_bs, bs_l (I.lq i 2) (show 2 < 4294967296 by decide), o4, m_y4 hi5, Int32.sub_zero, nI_1]
    have step : ∀ v, v = (if sT S i 2 = 2 then sT S i 4 - 1 else sT S i 4) → ∃ G1, fX7_tick_h2 f (nI (i + 1)) (gm_up G' 8 5 0 (382 + 8 * i + 4) (nI v)) = fX7_tick_h69 6000 0 G1 ∧ MA G1 (sP1 S 1 (S 381)) ∧ FrM G G1 := by
      intro v hv
      refine ih (i + 1) f _ (by omega) (by omega) ?_ hF.up
      rw [sP1_s, ← hv]
      exact h.up _ _
    by_cases c : sT S i 2 = 2
    · rw [if_pos c]
      by_cases c4 : sT S i 4 = 0
      · rw [if_pos c4]
        exact step _ (by rw [if_pos c]; omega)
      · rw [if_neg c4, show nI (sT S i 4) - 1 = nI (sT S i 4 - 1) from bs_sub (b := 1) (by omega)]
        exact step _ (by rw [if_pos c])
    · rw [if_neg c]
      exact step _ (by rw [if_neg c])
theorem m_tick2 (I : Inv M S) {Z : Sm} (hz : ∀ i, i < 382 → Z i = S i) (h0 : S 0 < 2147483647) : ∀ m i f : Nat, ∀ G' : Gm, i + m = 2 * (S 1 - 1) → m < f → MA G' (sP2 Z 1 i) → ∃ G1, fX7_tick_h69 f (nI i) G' = some G1 ∧ MA G1 (su (sP2 Z 1 (2 * (S 1 - 1))) 0 (S 0 + 1)) ∧ FrM G' G1 := by
  have bx := I.bx
  intro m
  induction m with
  | zero =>
    intro i f G' hi hf h
    obtain ⟨f, rfl⟩ : ∃ g, f = g + 1 := ⟨f - 1, by omega⟩
    have e := h 1 (by decide)
    rw [sP2_ne (by omega), hz 1 (by decide)] at e
    have e0 := h 0 (by decide)
    rw [sP2_ne (by omega), hz 0 (by decide)] at e0
    have e2 : (2 : Int32) * (nI (S 1) - 1) = nI (2 * (S 1 - 1)) := by rw [show (1 : Int32) = nI 1 from rfl, bs_sub (by omega)]; exact bs_mul 2 _
    rw [fX7_tick_h69.eq_2]
    unfold fX7_sections
    rw [gm_bs, e, e2, if_pos ((bs_le (by omega) (by omega)).mpr (by omega)), e0, nI_1]
    exact ⟨_, rfl, by rw [show 2 * (S 1 - 1) = i by omega]; exact h.up _ _, FrM.rf.up⟩
  | succ m ih =>
    intro i f G' hi hf h
    obtain ⟨f, rfl⟩ : ∃ g, f = g + 1 := ⟨f - 1, by omega⟩
    have hi10 : i < 10 := by omega
    have bk := I.bk hi10
    have zb : ∀ w, w < 5 → sB Z i w = sB S i w := fun w hw => hz _ (by omega)
    have e := h 1 (by decide)
    rw [sP2_ne (by omega), hz 1 (by decide)] at e
    have e2 : (2 : Int32) * (nI (S 1) - 1) = nI (2 * (S 1 - 1)) := by rw [show (1 : Int32) = nI 1 from rfl, bs_sub (by omega)]; exact bs_mul 2 _
    have x4 : (30 : Int32) + 5 * nI i + 4 = nI (30 + 5 * i + 4) := by simp only [bs_nat, bs_mul, nI_add]
    have x3 : (30 : Int32) + 5 * nI i + 3 = nI (30 + 5 * i + 3) := by simp only [bs_nat, bs_mul, nI_add]
    have e4 := h (30 + 5 * i + 4) (by omega)
    rw [show sP2 Z 1 i (30 + 5 * i + 4) = sB S i 4 from (sP2_ne (by omega)).trans (zb 4 (by decide))] at e4
    have o4 : ∀ v, v ≤ 60 → (nI v ≤ 0 ↔ v = 0) := by
      intro v hv
      rw [show (0 : Int32) = nI 0 from rfl, bs_le (by omega) (by decide)]; omega
    rw [fX7_tick_h69.eq_2]
    unfold fX7_sections
    rw [gm_bs, e, e2, if_neg (by rw [bs_le (by omega) (by omega)]; omega), x4, x3]
    simp only [gi_b hi10 (show 4 < 5 by decide), gi_b hi10 (show 3 < 5 by decide), e4, o4 _ bk.2.2.2.2.1, gu_at, nI_1]
    by_cases c : sB S i 4 = 0
    · rw [if_pos c]
      obtain ⟨G1, g1, g2, g3⟩ := ih (i + 1) f G' (by omega) (by omega) (by
        rw [sP2_s, zb 4 (by decide), zb 3 (by decide), c, if_neg (fun q => by omega)]
        have r4 : sP2 Z 1 i (30 + 5 * i + 4) = 0 := (sP2_ne (by omega)).trans ((zb 4 (by decide)).trans c)
        have r3 : sP2 Z 1 i (30 + 5 * i + 3) = sB S i 3 := (sP2_ne (by omega)).trans (zb 3 (by decide))
        have s4 : su (sP2 Z 1 i) (30 + 5 * i + 4) (0 - 1) = sP2 Z 1 i := by
          rw [show (0 - 1 : Nat) = sP2 Z 1 i (30 + 5 * i + 4) from r4.symm]; exact su_self _ _
        rw [s4, ← r3, su_self]
        exact h)
      exact ⟨G1, g1, g2, g3⟩
    · rw [if_neg c, show nI (sB S i 4) - 1 = nI (sB S i 4 - 1) from bs_sub (b := 1) (by omega)]
      simp only [o4 (sB S i 4 - 1) (by omega)]
      have step : ∀ v, v = (if 0 < sB S i 4 ∧ sB S i 4 ≤ 1 then 0 else sB S i 3) → ∃ G1, fX7_tick_h69 f (nI (i + 1)) (gm_up (gm_up G' 8 5 0 (30 + 5 * i + 4) (nI (sB S i 4 - 1))) 8 5 0 (30 + 5 * i + 3) (nI v)) = some G1 ∧ MA G1 (su (sP2 Z 1 (2 * (S 1 - 1))) 0 (S 0 + 1)) ∧ FrM G' G1 := by
        intro v hv
        obtain ⟨G1, g1, g2, g3⟩ := ih (i + 1) f (gm_up (gm_up G' 8 5 0 (30 + 5 * i + 4) (nI (sB S i 4 - 1))) 8 5 0 (30 + 5 * i + 3) (nI v)) (by omega) (by omega) (by
          rw [sP2_s, zb 4 (by decide), zb 3 (by decide), ← hv]
          exact (h.up _ _).up _ _)
        exact ⟨G1, g1, g2, (FrM.rf.up.up).tr g3⟩
      by_cases c1 : sB S i 4 - 1 = 0
      · rw [if_pos c1]
        exact step 0 (by rw [if_pos ⟨by omega, by omega⟩])
      · rw [if_neg c1]
        exact step 1 (by rw [if_neg (fun q => by omega)]; exact (bk.2.2.2.2.2.1 (by omega)).symm)
theorem m_tick (h : MA G S) (I : Inv M S) (h0 : S 0 < 2147483647) : ∃ G', fX7_tick G = some G' ∧ MA G' (sPass S 1) ∧ FrM G G' := by
  have tn := I.tn
  have bx := I.bx
  unfold fX7_tick
  obtain ⟨G1, g1, g2, g3⟩ := m_tick1 h I (S 381) 0 6000 G (by omega) (by omega) (by rw [sP1_0]; exact h) FrM.rf
  obtain ⟨G2, k1, k2, k3⟩ := m_tick2 I (Z := sP1 S 1 (S 381)) (fun i hi => sP1_ne hi) h0 (2 * (S 1 - 1)) 0 6000 G1 (by omega) (by omega) (by rw [sP2_0]; exact g2)
  exact ⟨G2, by rw [show (0 : Int32) = nI 0 from rfl, g1]; exact k1, k2, g3.tr k3⟩
/-- the row after x ticks, number by number -/
theorem sPass_0 {x : Nat} : sPass S x 0 = S 0 + x := by unfold sPass; rw [su_at]
theorem sPass_e {x k : Nat} (h : 30 ≤ k ∧ k < 30 + 5 * (2 * (S 1 - 1)) ∧ (k - 30) % 5 = 4) (bx : S 1 ≤ 6) : sPass S x k = S k - x := by
  unfold sPass
  rw [su_ne (by omega)]
  unfold sP2
  rw [if_pos h, sP1_ne (by omega)]
theorem sPass_p {x k : Nat} (h : 30 ≤ k ∧ k < 30 + 5 * (2 * (S 1 - 1)) ∧ (k - 30) % 5 = 3) (bx : S 1 ≤ 6) : sPass S x k = if 0 < S (k + 1) ∧ S (k + 1) ≤ x then 0 else S k := by
  unfold sPass
  rw [su_ne (by omega)]
  unfold sP2
  rw [if_neg (by omega), sP1_ne (show k + 1 < 382 by omega), sP1_ne (show k < 382 by omega)]
  by_cases c : 0 < S (k + 1) ∧ S (k + 1) ≤ x
  · rw [if_pos c, if_pos ⟨h.1, h.2.1, h.2.2, c.1, c.2⟩]
  · rw [if_neg c, if_neg (fun q => c ⟨q.2.2.2.1, q.2.2.2.2⟩)]
theorem sPass_l {x k : Nat} (h : 382 ≤ k ∧ k < 382 + 8 * S 381 ∧ (k - 382) % 8 = 4) (bx : S 1 ≤ 6) : sPass S x k = if S (k - 2) = 2 then S k - x else S k := by
  unfold sPass
  rw [su_ne (by omega), sP2_ne (by omega)]
  unfold sP1
  by_cases c : S (k - 2) = 2
  · rw [if_pos c, if_pos ⟨h.1, h.2.1, h.2.2, c⟩]
  · rw [if_neg c, if_neg (fun q => c q.2.2.2)]
theorem sPass_o {x k : Nat} (h0 : k ≠ 0) (h : ¬ (30 ≤ k ∧ k < 30 + 5 * (2 * (S 1 - 1)) ∧ ((k - 30) % 5 = 4 ∨ (k - 30) % 5 = 3))) (h2 : ¬ (382 ≤ k ∧ k < 382 + 8 * S 381 ∧ (k - 382) % 8 = 4)) : sPass S x k = S k := by
  unfold sPass
  rw [su_ne h0]
  unfold sP2
  rw [if_neg (by omega), if_neg (by omega)]
  unfold sP1
  rw [if_neg (by omega)]
/-- ticks add up -/
theorem sPass_add (bx : S 1 ≤ 6) (x y : Nat) : sPass (sPass S x) y = sPass S (x + y) := by
  have n1 : sPass S x 1 = S 1 := sPass_o (by omega) (by omega) (by omega)
  have n381 : sPass S x 381 = S 381 := sPass_o (by omega) (by omega) (by omega)
  funext k
  by_cases k0 : k = 0
  · rw [k0, sPass_0, sPass_0, sPass_0]; omega
  by_cases ke : 30 ≤ k ∧ k < 30 + 5 * (2 * (S 1 - 1)) ∧ (k - 30) % 5 = 4
  · rw [sPass_e (S := sPass S x) (by rw [n1]; exact ke) (by omega), sPass_e ke bx, sPass_e ke bx]; omega
  by_cases kp : 30 ≤ k ∧ k < 30 + 5 * (2 * (S 1 - 1)) ∧ (k - 30) % 5 = 3
  · rw [sPass_p (S := sPass S x) (by rw [n1]; exact kp) (by omega), sPass_p kp bx, sPass_p kp bx, sPass_e (k := k + 1) ⟨by omega, by omega, by omega⟩ bx]
    generalize S (k + 1) = e
    by_cases z : 0 < e ∧ e ≤ x
    · rw [if_pos z, if_pos (show 0 < e ∧ e ≤ x + y by omega)]
      split <;> rfl
    · rw [if_neg z]
      by_cases z2 : 0 < e ∧ e ≤ x + y
      · rw [if_pos z2, if_pos (by omega)]
      · rw [if_neg z2, if_neg (by omega)]
  by_cases kl : 382 ≤ k ∧ k < 382 + 8 * S 381 ∧ (k - 382) % 8 = 4
  · rw [sPass_l (S := sPass S x) (by rw [n381]; exact kl) (by omega), sPass_l kl bx, sPass_l kl bx, sPass_o (k := k - 2) (by omega) (by omega) (by omega)]
    by_cases z : S (k - 2) = 2
    · rw [if_pos z, if_pos z, if_pos z]; omega
    · rw [if_neg z, if_neg z, if_neg z]
  · rw [sPass_o (S := sPass S x) k0 (by rw [n1]; omega) (by rw [n381]; omega), sPass_o k0 (by omega) (by omega), sPass_o k0 (by omega) (by omega)]
end
