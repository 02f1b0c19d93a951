section
variable {S S' R R' : Sm} {M M' k d : Nat}
/-- leaving: all trains -/
theorem lv_ch (c : CI k d S) : ∀ i, i ≤ S 381 → (∀ q, q < 382 → sIt sLeave S i q = S q) ∧ (∀ t w, w < 8 → sT (sIt sLeave S i) t w = if t < i ∧ sT S t 2 = 0 ∧ sT S t 3 = sLast S d then (if w = 2 then 3 else if w = 3 then NN else if w = 7 then S 0 else sT S t w) else sT S t w) := by
  intro i
  induction i with
  | zero => exact fun _ => ⟨fun _ _ => rfl, fun t w hw => by rw [if_neg (by omega)]; rfl⟩
  | succ i ih =>
    intro hi
    obtain ⟨h1, h2⟩ := ih (by omega)
    have es : sIt sLeave S (i + 1) = (sLeave (sIt sLeave S i) i).2 := rfl
    rw [es]
    generalize sIt sLeave S i = Z at *
    have ei : ∀ w, w < 8 → sT Z i w = sT S i w := fun w hw => by rw [h2 i w hw, if_neg (by omega)]
    have el : sLast Z (sT Z i 1) = sLast S d := by
      unfold sLast
      rw [h1 1 (by decide), ei 1 (by decide), (c.1 i (by omega)).2.1]
    unfold sLeave
    rw [ei 2 (by decide), ei 3 (by decide), el]
    by_cases q : sT S i 2 = 0 ∧ sT S i 3 = sLast S d
    · rw [if_pos q]
      dsimp only
      refine ⟨fun z hz => by rw [su_ne (by omega), su_ne (by omega), su_ne (by omega)]; exact h1 z hz, fun t w hw => ?_⟩
      show su _ _ _ _ = _
      by_cases e : t = i
      · subst e
        rw [if_pos ⟨by omega, q⟩]
        by_cases w7 : w = 7
        · subst w7
          rw [su_at, if_neg (by decide), if_neg (by decide), if_pos rfl, h1 0 (by decide)]
        · rw [su_ne (by omega)]
          by_cases w3 : w = 3
          · subst w3
            rw [su_at, if_neg (by decide), if_pos rfl]
          · rw [su_ne (by omega)]
            by_cases w2 : w = 2
            · subst w2
              rw [su_at, if_pos rfl]
            · rw [su_ne (by omega), if_neg w2, if_neg w3, if_neg w7]
              exact ei w hw
      · rw [su_ne (by omega), su_ne (by omega), su_ne (by omega)]
        refine (h2 t w hw).trans ?_
        by_cases p : t < i ∧ sT S t 2 = 0 ∧ sT S t 3 = sLast S d
        · rw [if_pos p, if_pos (show t < i + 1 ∧ sT S t 2 = 0 ∧ sT S t 3 = sLast S d from ⟨by omega, p.2⟩)]
        · rw [if_neg p, if_neg (fun z => p ⟨by omega, z.2⟩)]
    · rw [if_neg q]
      refine ⟨h1, fun t w hw => (h2 t w hw).trans ?_⟩
      by_cases p : t < i ∧ sT S t 2 = 0 ∧ sT S t 3 = sLast S d
      · rw [if_pos p, if_pos (show t < i + 1 ∧ sT S t 2 = 0 ∧ sT S t 3 = sLast S d from ⟨by omega, p.2⟩)]
      · rw [if_neg p, if_neg]
        rintro ⟨z1, z2⟩
        by_cases e : t = i
        · rw [e] at z2; exact q z2
        · exact p ⟨by omega, z2⟩
theorem lv_ct (c : CI k d S) (I : Inv M S) (h0 : S 0 < 2147483648) : ∀ i, i ≤ S 381 → (sLc S i = 1 ∧ ∃ t, t < i ∧ sT S t 2 = 0 ∧ sT S t 3 = sLast S d) ∨ (sLc S i = 0 ∧ ∀ t, t < i → ¬ (sT S t 2 = 0 ∧ sT S t 3 = sLast S d)) := by
  intro i
  induction i with
  | zero => exact fun _ => Or.inr ⟨rfl, fun t ht => by omega⟩
  | succ i ih =>
    intro hi
    have ih := ih (by omega)
    obtain ⟨h1, h2⟩ := lv_ch c i (by omega)
    have es : sLc S (i + 1) = sLc S i + (if (sLeave (sIt sLeave S i) i).1 = NP then 0 else 1) := rfl
    rw [es]
    generalize sIt sLeave S i = Z at *
    have ei : ∀ w, w < 8 → sT Z i w = sT S i w := fun w hw => by rw [h2 i w hw, if_neg (by omega)]
    have el : sLast Z (sT Z i 1) = sLast S d := by
      unfold sLast
      rw [h1 1 (by decide), ei 1 (by decide), (c.1 i (by omega)).2.1]
    have nn : NP = 4294967291 := rfl
    unfold sLeave
    rw [ei 2 (by decide), ei 3 (by decide), ei 6 (by decide), el, h1 0 (by decide)]
    by_cases q : sT S i 2 = 0 ∧ sT S i 3 = sLast S d
    · rw [if_pos q, if_neg (by dsimp only; omega)]
      rcases ih with ⟨-, t, z1, z2, z3⟩ | ⟨z0, z1⟩
      · exact absurd (z3.trans q.2.symm) (c.2.1 t i (by omega) (by omega) (by omega) (by rw [z2, q.1]) (by omega))
      · exact Or.inl ⟨by omega, i, by omega, q⟩
    · rw [if_neg q, if_pos rfl]
      rcases ih with ⟨z0, t, z1, z2⟩ | ⟨z0, z1⟩
      · exact Or.inl ⟨z0, t, by omega, z2⟩
      · refine Or.inr ⟨z0, fun t ht => ?_⟩
        by_cases e : t = i
        · rw [e]; exact q
        · exact z1 t (by omega)
theorem lv_v (c : CI k d S) (I : Inv M S) : CI k d (sIt sLeave S (S 381)) ∧ (∀ j, j < 10 → sIn (sIt sLeave S (S 381)) j = sIn S j ∧ (sIn S j = true → sT (sIt sLeave S (S 381)) (sB S j 2) 4 = sT S (sB S j 2) 4)) ∧ (∀ x, At (sIt sLeave S (S 381)) x ↔ At S x ∧ x ≠ sLast S d) := by
  obtain ⟨h1, h2⟩ := lv_ch c (S 381) (Nat.le_refl _)
  generalize sIt sLeave S (S 381) = Z at *
  have n : Z 381 = S 381 := h1 _ (by decide)
  have o : ∀ t w, w < 8 → w ≠ 2 → w ≠ 3 → w ≠ 7 → sT Z t w = sT S t w := fun t w hw a b e => by
    rw [h2 t w hw, if_neg a, if_neg b, if_neg e]
    split <;> rfl
  have yes : ∀ t, t < S 381 ∧ sT S t 2 = 0 ∧ sT S t 3 = sLast S d → sT Z t 2 = 3 := fun t p => by rw [h2 t 2 (by decide), if_pos p, if_pos rfl]
  have no : ∀ t, ¬ (t < S 381 ∧ sT S t 2 = 0 ∧ sT S t 3 = sLast S d) → sT Z t 2 = sT S t 2 ∧ sT Z t 3 = sT S t 3 := fun t p => ⟨by rw [h2 t 2 (by decide), if_neg p], by rw [h2 t 3 (by decide), if_neg p]⟩
  have hB : ∀ j w, j < 10 → w < 5 → sB Z j w = sB S j w := fun j w hj hw => h1 _ (by omega)
  refine ⟨?_, fun j hj => ?_, fun x => ?_⟩
  · obtain ⟨c1, c2, c3, c4, c5⟩ := c
    refine ⟨fun t ht => ?_, fun t t' ht ht' ne => ?_, fun j hj q => ?_, fun j hj => ?_, fun t ht q => ?_⟩
    · rw [n] at ht
      refine ⟨by rw [o t 0 (by decide) (by decide) (by decide) (by decide)]; exact (c1 t ht).1, by rw [o t 1 (by decide) (by decide) (by decide) (by decide)]; exact (c1 t ht).2.1, ?_⟩
      by_cases p : t < S 381 ∧ sT S t 2 = 0 ∧ sT S t 3 = sLast S d
      · rw [yes t p]; decide
      · rw [(no t p).1]; exact (c1 t ht).2.2
    · rw [n] at ht ht'
      intro q1 q2
      have p : ¬ (t < S 381 ∧ sT S t 2 = 0 ∧ sT S t 3 = sLast S d) := fun z => q2 (yes t z)
      have p' : ¬ (t' < S 381 ∧ sT S t' 2 = 0 ∧ sT S t' 3 = sLast S d) := fun z => q2 (q1.trans (yes t' z))
      rw [(no t p).1] at q1 q2
      rw [(no t' p').1] at q1
      rw [(no t p).2, (no t' p').2]
      exact c2 t t' ht ht' ne q1 q2
    · rw [hB j 0 hj (by decide), hB j 1 hj (by decide)]; exact c3 j hj q
    · rw [hB j 3 hj (by decide)]; exact c4 j hj
    · rw [n] at ht
      have p : ¬ (t < S 381 ∧ sT S t 2 = 0 ∧ sT S t 3 = sLast S d) := fun z => by rw [yes t z] at q; exact absurd q (by decide)
      rw [(no t p).1] at q
      have bx := I.bx
      have := (I.tr ht).2.2.2.2.2.1 q
      have hd : d ≤ 1 := by rw [← (c1 t ht).2.1]; exact (I.tr ht).2.2.1
      rw [(no t p).2, hB _ 0 (by omega) (by decide), hB _ 2 (by omega) (by decide)]
      exact c5 t ht q
  · have e2 := hB j 2 hj (by decide)
    refine ⟨?_, fun q => o _ 4 (by decide) (by decide) (by decide) (by decide)⟩
    by_cases p : sB S j 2 < S 381 ∧ sT S (sB S j 2) 2 = 0 ∧ sT S (sB S j 2) 3 = sLast S d
    · unfold sIn
      rw [e2, yes _ p, p.2.1]
      simp
    · unfold sIn
      rw [e2, (no _ p).1, (no _ p).2]
  · unfold At
    rw [n]
    constructor
    · rintro ⟨t, a1, a2, a3⟩
      have p : ¬ (t < S 381 ∧ sT S t 2 = 0 ∧ sT S t 3 = sLast S d) := fun z => by rw [yes t z] at a2; exact absurd a2 (by decide)
      rw [(no t p).1] at a2
      rw [(no t p).2] at a3
      exact ⟨⟨t, a1, a2, a3⟩, fun z => p ⟨a1, a2, a3.trans z⟩⟩
    · rintro ⟨⟨t, a1, a2, a3⟩, ne⟩
      have p : ¬ (t < S 381 ∧ sT S t 2 = 0 ∧ sT S t 3 = sLast S d) := fun z => ne (a3.symm.trans z.2.2)
      exact ⟨t, a1, by rw [(no t p).1]; exact a2, by rw [(no t p).2]; exact a3⟩
theorem vw_lv (I : Inv M S) (J : Inv M' R) (c : CI k d S) (c' : CI k d R) (v : Vw S R) (h0 : S 0 < 2147483648) (h0' : R 0 < 2147483648) : Vw (sIt sLeave S (S 381)) (sIt sLeave R (R 381)) ∧ sLc S (S 381) = sLc R (R 381) := by
  obtain ⟨v1, v2, v3⟩ := v
  have el : sLast S d = sLast R d := by unfold sLast; rw [v1 1 (by decide) (by decide)]
  obtain ⟨-, a2, a3⟩ := lv_v c I
  obtain ⟨-, b2, b3⟩ := lv_v c' J
  obtain ⟨h1, -⟩ := lv_ch c (S 381) (Nat.le_refl _)
  obtain ⟨g1, -⟩ := lv_ch c' (R 381) (Nat.le_refl _)
  refine ⟨⟨fun i i1 i2 => ?_, fun j hj => ?_, fun x => ?_⟩, ?_⟩
  · rw [h1 i (by omega), g1 i (by omega)]; exact v1 i i1 i2
  · obtain ⟨y0, y1, y2, y3⟩ := v2 j hj
    rw [show sB (sIt sLeave S (S 381)) j 0 = _ from h1 _ (by omega), show sB (sIt sLeave S (S 381)) j 1 = _ from h1 _ (by omega), show sB (sIt sLeave S (S 381)) j 2 = _ from h1 _ (by omega), show sB (sIt sLeave R (R 381)) j 0 = _ from g1 _ (by omega), show sB (sIt sLeave R (R 381)) j 1 = _ from g1 _ (by omega), show sB (sIt sLeave R (R 381)) j 2 = _ from g1 _ (by omega), (a2 j hj).1, (b2 j hj).1]
    refine ⟨y0, y1, y2, fun q => ?_⟩
    rw [(a2 j hj).2 q, (b2 j hj).2 (by rw [← y2]; exact q)]
    exact y3 q
  · rw [a3, b3, v3 x, el]
  · rcases lv_ct c I h0 (S 381) (Nat.le_refl _) with ⟨z0, t, t1, t2, t3⟩ | ⟨z0, z1⟩
    · rcases lv_ct c' J h0' (R 381) (Nat.le_refl _) with ⟨y0, -⟩ | ⟨y0, y1⟩
      · omega
      · obtain ⟨u, u1, u2, u3⟩ := (v3 (sLast S d)).mp ⟨t, t1, t2, t3⟩
        exact absurd ⟨u2, u3.trans el⟩ (y1 u u1)
    · rcases lv_ct c' J h0' (R 381) (Nat.le_refl _) with ⟨y0, t, t1, t2, t3⟩ | ⟨y0, y1⟩
      · obtain ⟨u, u1, u2, u3⟩ := (v3 (sLast S d)).mpr ⟨t, t1, t2, t3.trans el.symm⟩
        exact absurd ⟨u2, u3⟩ (z1 u u1)
      · omega
/-- offering: all trains -/
theorem of_ch (c : CI k d S) (I : Inv M S) : ∀ i, i ≤ S 381 → (∀ q, (q < 80 ∧ ¬ (30 ≤ q ∧ (q - 30) % 5 = 1)) ∨ 381 ≤ q → sIt sOffer S i q = S q) ∧ (∀ j, j < 10 → (sB (sIt sOffer S i) j 1 = NN ↔ sB S j 1 = NN ∧ ¬ (sB S j 0 = 0 ∧ ∃ t, t < i ∧ sT S t 2 = 0 ∧ sNx S (sT S t 3) (sT S t 1) = some j))) := by
  have bx := I.bx
  have tn := I.tn
  have nn : NN = 4294967290 := rfl
  intro i
  induction i with
  | zero => exact fun _ => ⟨fun _ _ => rfl, fun j hj => ⟨fun q => ⟨q, fun z => by obtain ⟨-, t, t1, -⟩ := z; omega⟩, fun q => q.1⟩⟩
  | succ i ih =>
    intro hi
    obtain ⟨h1, h2⟩ := ih (by omega)
    have es : sIt sOffer S (i + 1) = (sOffer (sIt sOffer S i) i).2 := rfl
    rw [es]
    generalize sIt sOffer S i = Z at *
    have ei : ∀ w, sT Z i w = sT S i w := fun w => h1 _ (by omega)
    have tr := I.tr (t := i) (by omega)
    have ex : ∀ x e, sNx Z x e = sNx S x e := fun x e => by unfold sNx; rw [h1 1 (by omega)]
    have grow : ∀ j, ¬ (sT S i 2 = 0 ∧ sNx S (sT S i 3) (sT S i 1) = some j) → ((∃ t, t < i + 1 ∧ sT S t 2 = 0 ∧ sNx S (sT S t 3) (sT S t 1) = some j) ↔ ∃ t, t < i ∧ sT S t 2 = 0 ∧ sNx S (sT S t 3) (sT S t 1) = some j) := by
      intro j hne
      constructor
      · rintro ⟨t, t1, t2⟩
        by_cases e : t = i
        · rw [e] at t2; exact absurd t2 hne
        · exact ⟨t, by omega, t2⟩
      · rintro ⟨t, t1, t2⟩
        exact ⟨t, by omega, t2⟩
    unfold sOffer
    rw [ei 2, ei 3, ei 1, ex]
    by_cases p : sT S i 2 = 0
    · rw [if_pos p]
      cases e : sNx S (sT S i 3) (sT S i 1) with
      | none =>
        dsimp only
        exact ⟨h1, fun j hj => by rw [h2 j hj, grow j (fun z => by rw [e] at z; cases z.2)]⟩
      | some j0 =>
        have nj := m_nxj (by omega) e
        have j10 : j0 < 10 := by omega
        have b0 : sB Z j0 0 = sB S j0 0 := h1 _ (by omega)
        dsimp only
        by_cases q : sB Z j0 0 = 0 ∧ sB Z j0 1 = NN
        · rw [if_pos q]
          refine ⟨fun z hz => ?_, fun j hj => ?_⟩
          · dsimp only
            rw [sRing_ne (by omega), su_ne (by omega)]; exact h1 z hz
          · rw [show sB (sRing (su Z (30 + 5 * j0 + 1) i) j0 (sRr j0) (sCo (sT Z i 0))) j 1 = su Z (30 + 5 * j0 + 1) i (30 + 5 * j + 1) from sRing_ne (by omega)]
            by_cases ej : j = j0
            · subst ej
              rw [su_at]
              constructor
              · intro z; omega
              · rintro ⟨z1, z2⟩
                exact absurd ⟨by rw [← b0]; exact q.1, i, by omega, p, e⟩ z2
            · rw [su_ne (by omega)]
              refine (h2 j hj).trans ?_
              rw [grow j (fun z => by rw [e] at z; exact ej (Option.some.inj z.2).symm)]
        · rw [if_neg q]
          refine ⟨h1, fun j hj => (h2 j hj).trans ?_⟩
          by_cases ej : j = j0
          · subst ej
            constructor
            · rintro ⟨z1, z2⟩
              have zo := (h2 j hj).mpr ⟨z1, z2⟩
              exact ⟨z1, fun zz => q ⟨by rw [b0]; exact zz.1, zo⟩⟩
            · rintro ⟨z1, z2⟩
              exact ⟨z1, fun zz => z2 ⟨zz.1, by obtain ⟨t, t1, t2⟩ := zz.2; exact ⟨t, by omega, t2⟩⟩⟩
          · rw [grow j (fun z => by rw [e] at z; exact ej (Option.some.inj z.2).symm)]
    · rw [if_neg p]
      exact ⟨h1, fun j hj => by rw [h2 j hj, grow j (fun z => p z.1)]⟩
theorem at_nx (c : CI k d S) (I : Inv M S) (hd : d < 2) {j : Nat} (hj : j < 10) : (∃ t, t < S 381 ∧ sT S t 2 = 0 ∧ sNx S (sT S t 3) (sT S t 1) = some j) ↔ (j % 2 = d ∧ j + 2 < 2 * S 1 ∧ At S (sRr j)) := by
  have bx := I.bx
  constructor
  · rintro ⟨t, t1, t2, t3⟩
    rw [(c.1 t t1).2.1] at t3
    obtain ⟨n1, n2, n3, n4, n5⟩ := m_nxj hd t3
    refine ⟨n3, by omega, t, t1, t2, ?_⟩
    unfold sRr
    omega
  · rintro ⟨h1, h2, t, t1, t2, t3⟩
    exact ⟨t, t1, t2, by rw [(c.1 t t1).2.1]; exact nx_of bx.1 hd t3 h1.symm h2⟩
theorem of_v (c : CI k d S) (I : Inv M S) (hd : d < 2) : CI k d (sIt sOffer S (S 381)) ∧ (∀ i, 382 ≤ i → sIt sOffer S (S 381) i = S i) ∧ (∀ i, i < 30 ∨ i = 381 → sIt sOffer S (S 381) i = S i) ∧ (∀ j, j < 10 → ∀ w, w < 5 → w ≠ 1 → sB (sIt sOffer S (S 381)) j w = sB S j w) ∧ (∀ j, j < 10 → (sB (sIt sOffer S (S 381)) j 1 = NN ↔ sB S j 1 = NN ∧ ¬ (sB S j 0 = 0 ∧ j % 2 = d ∧ j + 2 < 2 * S 1 ∧ At S (sRr j)))) := by
  obtain ⟨h1, h2⟩ := of_ch c I (S 381) (Nat.le_refl _)
  have hb : ∀ j, j < 10 → ∀ w, w < 5 → w ≠ 1 → sB (sIt sOffer S (S 381)) j w = sB S j w := fun j hj w hw h => h1 _ (by omega)
  have ho : ∀ j, j < 10 → (sB (sIt sOffer S (S 381)) j 1 = NN ↔ sB S j 1 = NN ∧ ¬ (sB S j 0 = 0 ∧ j % 2 = d ∧ j + 2 < 2 * S 1 ∧ At S (sRr j))) := by
    intro j hj
    rw [h2 j hj, at_nx c I hd hj]
  refine ⟨?_, fun i hi => h1 i (by omega), fun i hi => h1 i (by omega), hb, ho⟩
  refine c.of (h1 _ (by omega)) (fun i hi _ => h1 i (by omega)) (fun j hj => hb j hj 3 (by decide) (by decide)) (fun j hj q => ⟨hb j hj 0 (by decide) (by decide), ?_⟩) (fun t ht q => ?_)
  · rw [(ho j hj).mpr ⟨(c.2.2.1 j hj q).2, fun z => q z.2.1⟩, (c.2.2.1 j hj q).2]
  · obtain ⟨r1, r2⟩ := run_lt I c hd ht q
    rw [hb _ r1 0 (by decide) (by decide), hb _ r1 2 (by decide) (by decide)]
    exact c.2.2.2.2 t ht q
theorem vw_of (I : Inv M S) (J : Inv M' R) (c : CI k d S) (c' : CI k d R) (hd : d < 2) (v : Vw S R) : Vw (sIt sOffer S (S 381)) (sIt sOffer R (R 381)) := by
  obtain ⟨v1, v2, v3⟩ := v
  obtain ⟨-, a1, a2, a3, a4⟩ := of_v c I hd
  obtain ⟨-, b1, b2, b3, b4⟩ := of_v c' J hd
  refine ⟨fun i i1 i2 => ?_, fun j hj => ?_, fun x => ?_⟩
  · rw [a2 i (by omega), b2 i (by omega)]; exact v1 i i1 i2
  · obtain ⟨y0, y1, y2, y3⟩ := v2 j hj
    rw [a4 j hj, b4 j hj, in_of (a3 j hj 2 (by decide) (by decide)) (fun i hi _ => a1 i hi), in_of (b3 j hj 2 (by decide) (by decide)) (fun i hi _ => b1 i hi), a3 j hj 0 (by decide) (by decide), b3 j hj 0 (by decide) (by decide), a3 j hj 2 (by decide) (by decide), b3 j hj 2 (by decide) (by decide), show sT (sIt sOffer S (S 381)) (sB S j 2) 4 = _ from a1 _ (by omega), show sT (sIt sOffer R (R 381)) (sB R j 2) 4 = _ from b1 _ (by omega), y0, y1, v3 (sRr j), v1 1 (by decide) (by decide)]
    exact ⟨rfl, Iff.rfl, y2, y3⟩
  · rw [At.of (a2 381 (by omega)) (fun i hi _ => a1 i hi), At.of (b2 381 (by omega)) (fun i hi _ => b1 i hi)]
    exact v3 x
end
