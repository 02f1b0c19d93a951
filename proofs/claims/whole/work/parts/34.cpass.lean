section
variable {G : Gm} {S : Sm} {l M : Nat}
theorem su_id {i v : Nat} (h : S i = v) : su S i v = S := by rw [← h]; exact su_self S i
theorem bs_wrap (k : Nat) : nI (4294967296 + k) = nI k := by
  apply Int32.toBitVec_inj.mp
  rw [bs_bv, bs_bv]
  apply BitVec.eq_of_toNat_eq
  rw [BitVec.toNat_ofNat, BitVec.toNat_ofNat]
  omega
/-- a difference below 0 -/
theorem bs_under {a b : Nat} (h : a < b) (hb : b < 4294967296) : nI a - nI b = nI (4294967296 - (b - a)) := by
  have : nI a = nI (4294967296 - (b - a)) + nI b := by
    rw [nI_add, ← bs_wrap a]
    congr 1
    omega
  rw [this, Int32.add_sub_cancel]
theorem bs_max {a b : Nat} (ha : a < 2147483648) (hb : b < 2147483648) : (if 0 < nI a - nI b then nI a - nI b else 0) = nI (a - b) := by
  by_cases h : b ≤ a
  · rw [bs_sub h, show (0 : Int32) = nI 0 from rfl]
    by_cases z : a - b = 0
    · rw [z]; rfl
    · rw [if_pos ((bs_lt (by decide) (by omega)).mpr (by omega))]
  · rw [bs_under (by omega) (by omega), if_neg]
    · rw [show a - b = 0 by omega]; rfl
    · intro q
      have := (bs_neg (a := 4294967296 - (b - a)) (by omega)).mpr (by omega)
      exact absurd (Int32.lt_trans q this) (by decide)
/-- the time is set -/
theorem CL0.tu (h : CL0 G l S) {v : Nat} {x : Int32} (hx : x = nI v) : CL0 (gm_up G 1 l 0 7 x) l (su S 0 v) := by
  subst hx
  obtain ⟨⟨a1, a2, a3, a4⟩, hs, hk, hb, hr, ht, hy⟩ := h
  have n80 : su S 0 v 80 = S 80 := su_ne (by omega)
  have n381 : su S 0 v 381 = S 381 := su_ne (by omega)
  refine ⟨⟨?_, ?_, ?_, ?_⟩, ?_, ?_, ?_, ?_, ?_, ?_⟩
  · rw [gu_at, su_at]
  · rw [gu_s (by decide), su_ne (by omega)]; exact a2
  · rw [gu_s (by decide), n381]; exact a3
  · rw [gu_k (by decide), n80]; exact a4
  · intro s q
    rw [gu_k (by decide), gu_k (by decide), gu_k (by decide), gu_k (by decide), sSg_su (by omega), su_ne (show 3 + s ≠ _ by omega), su_ne (show 8 + 2 * s ≠ _ by omega), su_ne (show 8 + 2 * s + 1 ≠ _ by omega)]
    exact hs s q
  · intro k q
    rw [gu_k (by decide), su_ne (by omega)]; exact hk k q
  · intro j' q w' q'
    have : sB (su S 0 v) j' w' = sB S j' w' := su_ne (by omega)
    rw [gu_k (by decide), this]; exact hb j' q w' q'
  · intro k q q'
    rw [n80] at q'
    rw [gu_k (by decide), su_ne (by omega)]; exact hr k q q'
  · intro t q w' q'
    rw [n381] at q
    have : sT (su S 0 v) t w' = sT S t w' := su_ne (by omega)
    rw [gu_k (by decide), this]; exact ht t q w' q'
  · intro t q
    rw [gu_k (by decide)]; exact hy t q
theorem sP1_b {x i j w : Nat} (hj : j < 10) (hw : w < 5) : sB (sP1 S x i) j w = sB S j w := sP1_ne (by omega)
theorem c_pass1 (I : Inv 12 S) {x : Nat} (hx : x < 2147483648) : ∀ m i f : Nat, ∀ G' : Gm, i + m = S 381 → m < f → CL G' l (sP1 S x i) → FrC l G G' → ∃ G1, fX1_letPass_h2 l (nI x) f (nI i) G' = fX1_letPass_h28 l (nI x) 6000 0 G1 ∧ CL G1 l (sP1 S x (S 381)) ∧ FrC l G G1 := by
  have tn := I.tn
  intro m
  induction m with
  | zero =>
    intro i f G' hi hf h hF
    obtain ⟨f, rfl⟩ : ∃ g, f = g + 1 := ⟨f - 1, by omega⟩
    have e := h.1.ap
    rw [sP1_ne (by decide)] at e
    rw [fX1_letPass_h2.eq_2, e, if_pos ((bs_le (by omega) (by omega)).mpr (by omega))]
    exact ⟨G', rfl, by rw [show S 381 = i by omega]; exact h, hF⟩
  | succ m ih =>
    intro i f G' hi hf h hF
    obtain ⟨f, rfl⟩ : ∃ g, f = g + 1 := ⟨f - 1, by omega⟩
    have hiS : i < S 381 := by omega
    have tr := I.tr hiS
    have e := h.1.ap
    rw [sP1_ne (by decide)] at e
    have e2 := h.1.t2 (show i < sP1 S x i 381 by rw [sP1_ne (by decide)]; exact hiS)
    rw [sP1_t (by decide) (by decide)] at e2
    have e4 := h.1.t4 (show i < sP1 S x i 381 by rw [sP1_ne (by decide)]; exact hiS)
    rw [sP1_4 (Nat.le_refl i)] at e4
    rw [fX1_letPass_h2.eq_2, e, if_neg (by rw [bs_le (by omega) (by omega)]; omega), gm_gin (by omega) (by decide)]
    unfold fX5_letPass
    rw [e2, e4, bs_max (by omega) hx]
    simp only [bs_l (I.lq i 2) (show 2 < 4294967296 by decide)]
    by_cases c : sT S i 2 = 2
    · rw [if_pos c, gm_bs, nI_1]
      refine ih (i + 1) f _ (by omega) (by omega) ?_ hF.up
      rw [sP1_s, if_pos c]
      refine ⟨h.1.t rfl rfl (by decide) (fun q => absurd q (by decide)), h.2.of (fun s => gu_k (by decide)) (su_ne (by omega)) (fun j hj => su_ne (by omega))⟩
    · rw [if_neg c, gm_bs, nI_1]
      refine ih (i + 1) f _ (by omega) (by omega) ?_ hF
      rw [sP1_s, if_neg c, su_id (S := sP1 S x i) (i := 382 + 8 * i + 4) (v := sT S i 4) (sP1_4 (Nat.le_refl i))]
      exact h
theorem c_pass2 (I : Inv 12 S) {Z : Sm} {x : Nat} (hx : x < 2147483648) (hz : ∀ i, i < 382 → Z i = S i) : ∀ m i f : Nat, ∀ G' : Gm, i + m = 2 * (S 1 - 1) → m < f → CL G' l (sP2 Z x i) → FrC l G G' → ∃ G1, fX1_letPass_h28 l (nI x) f (nI i) G' = some G1 ∧ CL G1 l (su (sP2 Z x (2 * (S 1 - 1))) 0 (S 0 + x)) ∧ FrC l G G1 := by
  have bx := I.bx
  intro m
  induction m with
  | zero =>
    intro i f G' hi hf h hF
    obtain ⟨f, rfl⟩ : ∃ g, f = g + 1 := ⟨f - 1, by omega⟩
    have e := h.1.bx
    rw [sP2_ne (by omega), hz 1 (by decide)] at e
    have e0 := h.1.tm
    rw [sP2_ne (by omega), hz 0 (by decide)] at e0
    have e2 : (2 : Int32) * (nI (S 1) - 1) = nI (2 * (S 1 - 1)) := by rw [show (1 : Int32) = nI 1 from rfl, bs_sub (by omega)]; exact bs_mul 2 _
    rw [fX1_letPass_h28.eq_2]
    unfold fX1_blockCount
    rw [gm_bs, e, e2, if_pos ((bs_le (by omega) (by omega)).mpr (by omega)), e0, nI_add]
    refine ⟨_, rfl, ?_, hF.up⟩
    rw [show 2 * (S 1 - 1) = i by omega]
    exact ⟨h.1.tu rfl, h.2.of (fun s => gu_k (by decide)) (su_ne (by omega)) (fun j hj => su_ne (by omega))⟩
  | succ m ih =>
    intro i f G' hi hf h hF
    obtain ⟨f, rfl⟩ : ∃ g, f = g + 1 := ⟨f - 1, by omega⟩
    have hi10 : i < 10 := by omega
    have bk := I.bk hi10
    have zb : ∀ w, w < 5 → sB Z i w = sB S i w := fun w hw => hz _ (by omega)
    have e := h.1.bx
    rw [sP2_ne (by omega), hz 1 (by decide)] at e
    have e2 : (2 : Int32) * (nI (S 1) - 1) = nI (2 * (S 1 - 1)) := by rw [show (1 : Int32) = nI 1 from rfl, bs_sub (by omega)]; exact bs_mul 2 _
    have r4 : sP2 Z x i (30 + 5 * i + 4) = sB S i 4 := (sP2_ne (by omega)).trans (zb 4 (by decide))
    have r3 : sP2 Z x i (30 + 5 * i + 3) = sB S i 3 := (sP2_ne (by omega)).trans (zb 3 (by decide))
    have e4 := h.1.b4 hi10
    rw [show sB (sP2 Z x i) i 4 = sB S i 4 from r4] at e4
    rw [fX1_letPass_h28.eq_2]
    unfold fX1_blockCount
    rw [gm_bs, e, e2, if_neg (by rw [bs_le (by omega) (by omega)]; omega), gm_gin hi10 (by decide)]
    unfold fX0_letPass
    rw [e4, bs_max (by omega) hx, gu_at]
    simp only [bs_l (I.lb i 4) (show 0 < 4294967296 by decide), bs_l (show sB S i 4 - x < 4294967296 by omega) (show 0 < 4294967296 by decide)]
    by_cases c : sB S i 4 = 0
    · rw [if_pos c, gm_bs, nI_1]
      refine ih (i + 1) f _ (by omega) (by omega) ?_ hF
      rw [sP2_s, zb 4 (by decide), zb 3 (by decide), c, if_neg (by omega), su_id (v := 0 - x) (by rw [r4, c]; omega), su_id r3]
      exact h
    · have C1 : CL (gm_up G' 0 l i 6 (nI (sB S i 4 - x))) l (su (sP2 Z x i) (30 + 5 * i + 4) (sB S i 4 - x)) := ⟨h.1.b (w := 4) rfl rfl hi10 (by decide), h.2.of (fun s => gu_k (by decide)) (su_ne (by omega)) (fun j hj => su_ne (by omega))⟩
      rw [if_neg c]
      by_cases c1 : sB S i 4 - x = 0
      · rw [if_pos c1, gm_bs, nI_1]
        refine ih (i + 1) f _ (by omega) (by omega) ?_ hF.up.up
        rw [sP2_s, zb 4 (by decide), zb 3 (by decide), if_pos (by omega)]
        exact ⟨C1.1.b (w := 3) rfl rfl hi10 (by decide), C1.2.of (fun s => gu_k (by decide)) (su_ne (by omega)) (fun j hj => su_ne (by omega))⟩
      · rw [if_neg c1, gm_bs, nI_1]
        refine ih (i + 1) f _ (by omega) (by omega) ?_ hF.up
        rw [sP2_s, zb 4 (by decide), zb 3 (by decide), if_neg (by omega), su_id (v := sB S i 3) (by rw [su_ne (by omega)]; exact r3)]
        exact C1
theorem c_pass (h : CL G l S) (I : Inv 12 S) {x : Nat} (hx : x < 2147483648) : ∃ G', fX1_letPass l (nI x) G = some G' ∧ CL G' l (sPass S x) ∧ FrC l G G' := by
  have tn := I.tn
  have bx := I.bx
  unfold fX1_letPass
  obtain ⟨G1, g1, g2, g3⟩ := c_pass1 (l := l) I hx (S 381) 0 6000 G (by omega) (by omega) (by rw [sP1_0]; exact h) FrC.rf
  obtain ⟨G2, k1, k2, k3⟩ := c_pass2 (l := l) I (Z := sP1 S x (S 381)) hx (fun i hi => sP1_ne hi) (2 * (S 1 - 1)) 0 6000 G1 (by omega) (by omega) (by rw [sP2_0]; exact g2) g3
  exact ⟨G2, by rw [show (0 : Int32) = nI 0 from rfl, g1]; exact k1, k2, k3⟩
/-- the invariant after x ticks -/
theorem i_pass (I : Inv M S) {x : Nat} (h0 : S 0 + x < 4294967296) : Inv M (sPass S x) := by
  have bx := I.bx
  have tn := I.tn
  have n1 : sPass S x 1 = S 1 := sPass_o (by omega) (by omega) (by omega)
  have n2 : sPass S x 2 = S 2 := sPass_o (by omega) (by omega) (by omega)
  have n381 : sPass S x 381 = S 381 := sPass_o (by omega) (by omega) (by omega)
  have hB : ∀ j w, j < 10 → w < 3 → sB (sPass S x) j w = sB S j w := fun j w hj hw => sPass_o (by omega) (by omega) (by omega)
  have hB4 : ∀ j, j < 10 → sB (sPass S x) j 4 = (if j < 2 * (S 1 - 1) then sB S j 4 - x else sB S j 4) := by
    intro j hj
    by_cases c : j < 2 * (S 1 - 1)
    · rw [if_pos c]; exact sPass_e (by omega) bx.2.1
    · rw [if_neg c]; exact sPass_o (by omega) (by omega) (by omega)
  have hB3 : ∀ j, j < 10 → sB (sPass S x) j 3 = (if j < 2 * (S 1 - 1) ∧ 0 < sB S j 4 ∧ sB S j 4 ≤ x then 0 else sB S j 3) := by
    intro j hj
    by_cases c : j < 2 * (S 1 - 1)
    · rw [show sB (sPass S x) j 3 = _ from sPass_p (by omega) bx.2.1]
      by_cases z : 0 < sB S j 4 ∧ sB S j 4 ≤ x
      · rw [if_pos z, if_pos ⟨c, z⟩]
      · rw [if_neg z, if_neg (fun q => z q.2)]
    · rw [if_neg (fun q => c q.1)]; exact sPass_o (by omega) (by omega) (by omega)
  have hT : ∀ t w, w < 8 → w ≠ 4 → sT (sPass S x) t w = sT S t w := fun t w hw h4 => sPass_o (by omega) (by omega) (by omega)
  have hT4 : ∀ t, t < S 381 → sT (sPass S x) t 4 ≤ sT S t 4 := by
    intro t ht
    rw [show sT (sPass S x) t 4 = _ from sPass_l (by omega) bx.2.1]
    show _ ≤ S (382 + 8 * t + 4)
    split <;> omega
  have hlt : ∀ k, sPass S x k < 4294967296 := by
    intro k
    have := I.1 k
    by_cases k0 : k = 0
    · rw [k0, sPass_0]; exact h0
    by_cases ke : 30 ≤ k ∧ k < 30 + 5 * (2 * (S 1 - 1)) ∧ (k - 30) % 5 = 4
    · rw [sPass_e ke bx.2.1]; omega
    by_cases kp : 30 ≤ k ∧ k < 30 + 5 * (2 * (S 1 - 1)) ∧ (k - 30) % 5 = 3
    · rw [sPass_p kp bx.2.1]; split <;> omega
    by_cases kl : 382 ≤ k ∧ k < 382 + 8 * S 381 ∧ (k - 382) % 8 = 4
    · rw [sPass_l kl bx.2.1]; split <;> omega
    · rw [sPass_o k0 (by omega) (by omega)]; exact this
  refine I.mk' hlt n1 n2 n381 (fun s _ => sPass_o (by omega) (by omega) (by omega)) (fun k _ => sPass_o (by omega) (by omega) (by omega)) (fun s hs => ?_) (fun j hj => ?_) (fun t ht => ?_) (fun j hj => ?_) (fun j hj _ => ⟨hB j 1 hj (by decide), hB j 0 hj (by decide)⟩)
  · have sc := I.sc hs
    unfold TK
    rw [show sPass S x (8 + 2 * s) = _ from sPass_o (by omega) (by omega) (by omega), show sPass S x (8 + 2 * s + 1) = _ from sPass_o (by omega) (by omega) (by omega), sTo_of n2 (fun j hj => hB j 0 hj (by decide)) hs, sSg_of n2]
    unfold sOn
    rw [hB (2 * s) 0 (by omega) (by decide), hB (2 * s + 1) 0 (by omega) (by decide)]
    exact sc.2.2
  · have bk := I.bk hj
    unfold BK
    rw [hB j 0 hj (by decide), hB j 1 hj (by decide), hB j 2 hj (by decide), hB3 j hj, hB4 j hj, n381]
    obtain ⟨b0, b1, b2, b3, b4, b5, b6, b7⟩ := bk
    refine ⟨b0, b1, b2, ?_, ?_, ?_, b6, b7⟩
    · split <;> omega
    · split <;> omega
    · intro q
      by_cases c : j < 2 * (S 1 - 1)
      · rw [if_pos c] at q
        rw [if_neg (by omega)]; exact b5 (by omega)
      · rw [if_neg c] at q
        rw [if_neg (fun z => c z.1)]; exact b5 q
  · have tr := I.tr ht
    have h4 := hT4 t ht
    unfold TR
    rw [hT t 0 (by decide) (by decide), hT t 1 (by decide) (by decide), hT t 2 (by decide) (by decide), hT t 3 (by decide) (by decide), hT t 5 (by decide) (by decide), hT t 6 (by decide) (by decide), n1, sPass_0]
    obtain ⟨a0, a1, a2, a3, a4, a5, a6, a7, a8⟩ := tr
    exact ⟨a0, a1, a2, a3, a4, a5, by omega, a7, by omega⟩
  · have ps := I.ps hj
    unfold PS
    rw [hB j 0 hj (by decide), hB j 1 hj (by decide), hB j 2 hj (by decide), hT _ 2 (by decide) (by decide), hT _ 3 (by decide) (by decide), hT _ 1 (by decide) (by decide), hT _ 2 (by decide) (by decide), hT _ 3 (by decide) (by decide), hT _ 1 (by decide) (by decide)]
    exact ps
end
