/-! Trains of one kind and one direction: rows that look alike. -/
def CI (k d : Nat) (S : Sm) : Prop :=
  (∀ t, t < S 381 → sT S t 0 = k ∧ sT S t 1 = d ∧ sT S t 2 ≠ 1) ∧
  (∀ t t', t < S 381 → t' < S 381 → t ≠ t' → sT S t 2 = sT S t' 2 → sT S t 2 ≠ 3 → sT S t 3 ≠ sT S t' 3) ∧
  (∀ j, j < 10 → j % 2 ≠ d → sB S j 0 = 0 ∧ sB S j 1 = NN) ∧
  (∀ j, j < 10 → sB S j 3 = 0) ∧
  (∀ t, t < S 381 → sT S t 2 = 2 → sB S (2 * sT S t 3 + d) 0 = 2 ∧ sB S (2 * sT S t 3 + d) 2 = t)
def At (S : Sm) (x : Nat) : Prop := ∃ t, t < S 381 ∧ sT S t 2 = 0 ∧ sT S t 3 = x
def Vw (S R : Sm) : Prop := (∀ i, 1 ≤ i → i < 18 → S i = R i) ∧
  (∀ j, j < 10 → sB S j 0 = sB R j 0 ∧ (sB S j 1 = NN ↔ sB R j 1 = NN) ∧ sIn S j = sIn R j ∧ (sIn S j = true → sT S (sB S j 2) 4 = sT R (sB R j 2) 4)) ∧
  (∀ x, At S x ↔ At R x)
section
variable {S S' R R' : Sm} {M M' k d : Nat}
theorem in_iff {j : Nat} : sIn S j = true ↔ sB S j 2 ≠ NN ∧ sT S (sB S j 2) 2 = 2 ∧ sT S (sB S j 2) 3 = j / 2 := by unfold sIn; exact decide_eq_true_iff
theorem fr_at (c : CI k d S) {x : Nat} : sFr S x d = true ↔ ¬ At S x := by
  unfold sFr
  rw [decide_eq_true_iff]
  constructor
  · rintro h ⟨t, h1, h2, h3⟩
    exact h t h1 ⟨h2, h3, (c.1 t h1).2.1⟩
  · intro h t h1 q
    exact h ⟨t, h1, q.1, q.2.1⟩
theorem fr_vw (c : CI k d S) (c' : CI k d R) (v : Vw S R) (x : Nat) : sFr S x d = sFr R x d := by
  have h1 := fr_at c (x := x)
  have h2 := fr_at c' (x := x)
  have h3 := v.2.2 x
  cases e1 : sFr S x d <;> cases e2 : sFr R x d <;> rw [e1] at h1 <;> rw [e2] at h2
  · exact absurd (h1.mpr (fun q => (h2.mp rfl) (h3.mp q))) (by decide)
  · exact absurd (h2.mpr (fun q => (h1.mp rfl) (h3.mpr q))) (by decide)
/-- only blocks change -/
theorem CI.of (c : CI k d S) (n : S' 381 = S 381) (ht : ∀ i, 382 ≤ i → (i - 382) % 8 ≠ 4 → S' i = S i) (h3 : ∀ j, j < 10 → sB S' j 3 = sB S j 3) (ho : ∀ j, j < 10 → j % 2 ≠ d → sB S' j 0 = sB S j 0 ∧ sB S' j 1 = sB S j 1) (he : ∀ t, t < S 381 → sT S t 2 = 2 → sB S' (2 * sT S t 3 + d) 0 = 2 ∧ sB S' (2 * sT S t 3 + d) 2 = t) : CI k d S' := by
  have hT : ∀ t w, w < 4 → sT S' t w = sT S t w := fun t w hw => ht _ (by omega) (by omega)
  obtain ⟨c1, c2, c3, c4, c5⟩ := c
  refine ⟨fun t h => ?_, fun t t' h h' => ?_, fun j hj q => ?_, fun j hj => ?_, fun t h q => ?_⟩
  · rw [n] at h
    rw [hT t 0 (by decide), hT t 1 (by decide), hT t 2 (by decide)]; exact c1 t h
  · rw [n] at h h'
    rw [hT t 2 (by decide), hT t' 2 (by decide), hT t 3 (by decide), hT t' 3 (by decide)]; exact c2 t t' h h'
  · rw [(ho j hj q).1, (ho j hj q).2]; exact c3 j hj q
  · rw [h3 j hj]; exact c4 j hj
  · rw [n] at h
    rw [hT t 2 (by decide)] at q
    rw [hT t 3 (by decide)]; exact he t h q
theorem At.of (n : S' 381 = S 381) (ht : ∀ i, 382 ≤ i → (i - 382) % 8 ≠ 4 → S' i = S i) {x : Nat} : At S' x ↔ At S x := by
  have hT : ∀ t w, w < 4 → sT S' t w = sT S t w := fun t w hw => ht _ (by omega) (by omega)
  unfold At
  rw [n]
  constructor
  · rintro ⟨t, h1, h2, h3⟩
    rw [hT t 2 (by decide)] at h2
    rw [hT t 3 (by decide)] at h3
    exact ⟨t, h1, h2, h3⟩
  · rintro ⟨t, h1, h2, h3⟩
    exact ⟨t, h1, by rw [hT t 2 (by decide)]; exact h2, by rw [hT t 3 (by decide)]; exact h3⟩
theorem in_of {j : Nat} (hb : sB S' j 2 = sB S j 2) (ht : ∀ i, 382 ≤ i → (i - 382) % 8 ≠ 4 → S' i = S i) : sIn S' j = sIn S j := by
  have hT : ∀ t w, w < 4 → sT S' t w = sT S t w := fun t w hw => ht _ (by omega) (by omega)
  unfold sIn
  rw [hb, hT _ 2 (by decide), hT _ 3 (by decide)]
theorem sg_vw (v : Vw S R) (s : Nat) : sSg S s = sSg R s := sSg_of (v.1 2 (by decide) (by decide))
theorem run_lt (I : Inv M S) (c : CI k d S) (hd : d < 2) {t : Nat} (ht : t < S 381) (h2 : sT S t 2 = 2) : 2 * sT S t 3 + d < 10 ∧ t ≠ NN := by
  have bx := I.bx
  have tn := I.tn
  have := (I.tr ht).2.2.2.2.2.1 h2
  have nn : NN = 4294967290 := rfl
  constructor
  · omega
  · omega
/-- train out -/
theorem out_b (I : Inv M S) {j : Nat} (hj : j < 10) (c : sB S j 0 = 2 ∧ sIn S j = false ∧ sB S j 3 ≠ 1) : (∀ j' w, j' < 10 → w < 5 → sB (sOut S j).2 j' w = if j' = j ∧ w = 0 then 0 else if j' = j ∧ w = 2 then NN else sB S j' w) ∧ (∀ i, i < 18 → (sOut S j).2 i = if i = 8 + 2 * (j / 2) + (1 - j % 2) then S i + (if sSg S (j / 2) then 1 else 0) else S i) := by
  unfold sOut
  rw [if_pos c]
  dsimp only
  refine ⟨fun j' w hj' hw => ?_, fun i hi => ?_⟩
  · show sRing _ _ _ _ _ = _
    rw [sRing_ne (by omega), su_ne (by omega)]
    by_cases c0 : j' = j ∧ w = 0
    · rw [if_pos c0, su_ne (by omega), c0.1, c0.2, su_at]
    · rw [if_neg c0]
      by_cases c2 : j' = j ∧ w = 2
      · rw [if_pos c2, c2.1, c2.2, su_at]
      · rw [if_neg c2, su_ne (by omega), su_ne (by omega)]
  · rw [sRing_ne (by omega)]
    by_cases e : i = 8 + 2 * (j / 2) + (1 - j % 2)
    · rw [if_pos e, e, su_at]
    · rw [if_neg e, su_ne e, su_ne (by omega), su_ne (by omega)]
theorem ci_out (I : Inv M S) (c : CI k d S) (hd : d < 2) {j : Nat} (hj : j < 10) : CI k d (sOut S j).2 := by
  by_cases h : sB S j 0 = 2 ∧ sIn S j = false ∧ sB S j 3 ≠ 1
  · obtain ⟨hb, hh⟩ := out_b I hj h
    have hjd : j % 2 = d := by
      by_cases e : j % 2 = d
      · exact e
      · have := (c.2.2.1 j hj e).1; omega
    refine c.of (k_out hj).2.2.1 (fun i hi _ => tq_out hj i hi) (fun j' hj' => ?_) (fun j' hj' q => ?_) (fun t ht q => ?_)
    · rw [hb j' 3 hj' (by decide), if_neg (by omega), if_neg (by omega)]
    · rw [hb j' 0 hj' (by decide), hb j' 1 hj' (by decide), if_neg (by rintro ⟨rfl, -⟩; exact q hjd), if_neg (by omega), if_neg (by omega), if_neg (by omega)]
      exact ⟨rfl, rfl⟩
    · obtain ⟨r1, r2⟩ := run_lt I c hd ht q
      obtain ⟨e1, e2⟩ := c.2.2.2.2 t ht q
      have ne : 2 * sT S t 3 + d ≠ j := by
        intro z
        rw [z] at e2
        have : sIn S j = true := in_iff.mpr ⟨by rw [e2]; exact r2, by rw [e2]; exact q, by rw [e2]; omega⟩
        rw [this] at h
        exact absurd h.2.1 (by decide)
      rw [hb _ 0 r1 (by decide), hb _ 2 r1 (by decide), if_neg (fun z => ne z.1), if_neg (fun z => ne z.1), if_neg (fun z => ne z.1), if_neg (fun z => ne z.1)]
      exact ⟨e1, e2⟩
  · unfold sOut
    rw [if_neg h]; exact c
theorem vw_out (I : Inv M S) (J : Inv M' R) (c : CI k d S) (c' : CI k d R) (v : Vw S R) {j : Nat} (hj : j < 10) : Vw (sOut S j).2 (sOut R j).2 := by
  obtain ⟨v1, v2, v3⟩ := v
  obtain ⟨w0, w1, w2, w3⟩ := v2 j hj
  have p1 := c.2.2.2.1 j hj
  have p2 := c'.2.2.2.1 j hj
  by_cases h : sB S j 0 = 2 ∧ sIn S j = false ∧ sB S j 3 ≠ 1
  · have h' : sB R j 0 = 2 ∧ sIn R j = false ∧ sB R j 3 ≠ 1 := ⟨by rw [← w0]; exact h.1, by rw [← w2]; exact h.2.1, by omega⟩
    obtain ⟨hb, hh⟩ := out_b I hj h
    obtain ⟨hb', hh'⟩ := out_b J hj h'
    refine ⟨fun i i1 i2 => ?_, fun j' hj' => ?_, fun x => ?_⟩
    · rw [hh i i2, hh' i i2, v1 i i1 i2, sg_vw ⟨v1, v2, v3⟩]
    · obtain ⟨y0, y1, y2, y3⟩ := v2 j' hj'
      by_cases e : j' = j
      · subst e
        have n1 : sIn (sOut S j').2 j' = false := by
          cases z : sIn (sOut S j').2 j' with
          | false => rfl
          | true => exact absurd (by rw [hb j' 2 hj' (by decide), if_neg (by omega), if_pos ⟨rfl, rfl⟩]) (in_iff.mp z).1
        have n2 : sIn (sOut R j').2 j' = false := by
          cases z : sIn (sOut R j').2 j' with
          | false => rfl
          | true => exact absurd (by rw [hb' j' 2 hj' (by decide), if_neg (by omega), if_pos ⟨rfl, rfl⟩]) (in_iff.mp z).1
        rw [n1, n2, hb j' 0 hj' (by decide), hb j' 1 hj' (by decide), hb' j' 0 hj' (by decide), hb' j' 1 hj' (by decide), if_pos ⟨rfl, rfl⟩, if_pos ⟨rfl, rfl⟩, if_neg (by omega), if_neg (by omega), if_neg (by omega), if_neg (by omega)]
        exact ⟨rfl, y1, rfl, fun q => by cases q⟩
      · have b2 : sB (sOut S j).2 j' 2 = sB S j' 2 := by rw [hb j' 2 hj' (by decide), if_neg (fun q => e q.1), if_neg (fun q => e q.1)]
        have b2' : sB (sOut R j).2 j' 2 = sB R j' 2 := by rw [hb' j' 2 hj' (by decide), if_neg (fun q => e q.1), if_neg (fun q => e q.1)]
        rw [in_of b2 (fun i hi _ => tq_out hj i hi), in_of b2' (fun i hi _ => tq_out hj i hi), b2, b2', show sT (sOut S j).2 (sB S j' 2) 4 = _ from tq_out hj _ (by omega), show sT (sOut R j).2 (sB R j' 2) 4 = _ from tq_out hj _ (by omega), hb j' 0 hj' (by decide), hb j' 1 hj' (by decide), hb' j' 0 hj' (by decide), hb' j' 1 hj' (by decide), if_neg (fun q => e q.1), if_neg (fun q => e q.1), if_neg (fun q => e q.1), if_neg (fun q => e q.1), if_neg (fun q => e q.1), if_neg (fun q => e q.1), if_neg (fun q => e q.1), if_neg (fun q => e q.1)]
        exact ⟨y0, y1, y2, y3⟩
    · rw [At.of (k_out hj).2.2.1 (fun i hi _ => tq_out hj i hi), At.of (k_out hj).2.2.1 (fun i hi _ => tq_out hj i hi)]
      exact v3 x
  · have h' : ¬ (sB R j 0 = 2 ∧ sIn R j = false ∧ sB R j 3 ≠ 1) := fun z => h ⟨by rw [w0]; exact z.1, by rw [w2]; exact z.2.1, by omega⟩
    unfold sOut
    rw [if_neg h, if_neg h']
    exact ⟨v1, v2, v3⟩
theorem assist_id (c : CI k d S) {j : Nat} (hj : j < 10) : (sAssist S j).2 = S := by
  unfold sAssist
  rw [if_neg (fun q => q.1 (c.2.2.2.1 j hj))]
/-- admitting -/
theorem adm_T {j : Nat} (h : sIn S j = true ∧ sT S (sB S j 2) 4 = 0 ∧ sFr S (sAh j) (j % 2) = true) : (∀ t w, w < 8 → sT (sAdmit S j).2 t w = if t = sB S j 2 ∧ w = 2 then 0 else if t = sB S j 2 ∧ w = 3 then sAh j else sT S t w) ∧ (∀ i, i < 382 → (sAdmit S j).2 i = S i) := by
  unfold sAdmit
  rw [if_pos h]
  dsimp only
  refine ⟨fun t w hw => ?_, fun i hi => by rw [su_ne (by omega), su_ne (by omega)]⟩
  show su _ _ _ _ = _
  by_cases c2 : t = sB S j 2 ∧ w = 2
  · rw [if_pos c2, su_ne (by omega), c2.1, c2.2, su_at]
  · rw [if_neg c2]
    by_cases c3 : t = sB S j 2 ∧ w = 3
    · rw [if_pos c3, c3.1, c3.2, su_at]
    · rw [if_neg c3, su_ne (by omega), su_ne (by omega)]
theorem adm_d (I : Inv M S) (c : CI k d S) {j : Nat} (hj : j < 10) (h : sIn S j = true) : j % 2 = d := by
  by_cases e : j % 2 = d
  · exact e
  · exact absurd ((I.bk hj).2.2.2.2.2.2.2.mpr (Or.inl (c.2.2.1 j hj e).1)) (in_iff.mp h).1
theorem ci_admit (I : Inv M S) (c : CI k d S) (hd : d < 2) {j : Nat} (hj : j < 10) : CI k d (sAdmit S j).2 := by
  by_cases h : sIn S j = true ∧ sT S (sB S j 2) 4 = 0 ∧ sFr S (sAh j) (j % 2) = true
  · obtain ⟨hT, hB⟩ := adm_T h
    have jd := adm_d I c hj h.1
    obtain ⟨o1, o2, o3⟩ := in_iff.mp h.1
    have fr := h.2.2
    rw [jd] at fr
    have fr := (fr_at c).mp fr
    have n : (sAdmit S j).2 381 = S 381 := hB _ (by decide)
    obtain ⟨c1, c2, c3, c4, c5⟩ := c
    refine ⟨fun t ht => ?_, fun t t' ht ht' ne => ?_, fun j' hj' q => ?_, fun j' hj' => ?_, fun t ht q => ?_⟩
    · rw [n] at ht
      rw [hT t 0 (by decide), hT t 1 (by decide), hT t 2 (by decide), if_neg (by omega), if_neg (by omega), if_neg (by omega), if_neg (by omega)]
      refine ⟨(c1 t ht).1, (c1 t ht).2.1, ?_⟩
      by_cases e : t = sB S j 2
      · rw [if_pos ⟨e, rfl⟩]; decide
      · rw [if_neg (fun z => e z.1), if_neg (fun z => e z.1)]; exact (c1 t ht).2.2
    · rw [n] at ht ht'
      have yes : ∀ u, u = sB S j 2 → sT (sAdmit S j).2 u 2 = 0 ∧ sT (sAdmit S j).2 u 3 = sAh j := fun u e => ⟨by rw [hT u 2 (by decide), if_pos ⟨e, rfl⟩], by rw [hT u 3 (by decide), if_neg (by omega), if_pos ⟨e, rfl⟩]⟩
      have no : ∀ u, u ≠ sB S j 2 → sT (sAdmit S j).2 u 2 = sT S u 2 ∧ sT (sAdmit S j).2 u 3 = sT S u 3 := fun u e => ⟨by rw [hT u 2 (by decide), if_neg (fun z => e z.1), if_neg (fun z => e z.1)], by rw [hT u 3 (by decide), if_neg (fun z => e z.1), if_neg (fun z => e z.1)]⟩
      by_cases e : t = sB S j 2
      · have e' : ¬ t' = sB S j 2 := fun z => ne (e.trans z.symm)
        rw [(yes t e).1, (yes t e).2, (no t' e').1, (no t' e').2]
        intro q _ q3
        exact fr ⟨t', ht', q.symm, q3.symm⟩
      · by_cases e' : t' = sB S j 2
        · rw [(yes t' e').1, (yes t' e').2, (no t e).1, (no t e).2]
          intro q _ q3
          exact fr ⟨t, ht, q, q3⟩
        · rw [(no t e).1, (no t e).2, (no t' e').1, (no t' e').2]
          exact c2 t t' ht ht' ne
    · rw [show sB (sAdmit S j).2 j' 0 = _ from hB _ (by omega), show sB (sAdmit S j).2 j' 1 = _ from hB _ (by omega)]; exact c3 j' hj' q
    · rw [show sB (sAdmit S j).2 j' 3 = _ from hB _ (by omega)]; exact c4 j' hj'
    · rw [n] at ht
      have e : ¬ t = sB S j 2 := by
        intro z
        rw [hT t 2 (by decide), if_pos ⟨z, rfl⟩] at q
        exact absurd q (by decide)
      rw [hT t 2 (by decide), if_neg (fun z => e z.1), if_neg (fun z => e z.1)] at q
      obtain ⟨r1, r2⟩ := run_lt I ⟨c1, c2, c3, c4, c5⟩ hd ht q
      rw [hT t 3 (by decide), if_neg (fun z => e z.1), if_neg (fun z => e z.1), show sB (sAdmit S j).2 (2 * sT S t 3 + d) 0 = _ from hB _ (by omega), show sB (sAdmit S j).2 (2 * sT S t 3 + d) 2 = _ from hB _ (by omega)]
      exact c5 t ht q
  · unfold sAdmit
    rw [if_neg h]; exact c
/-- after admitting: one view -/
theorem adm_v (I : Inv M S) (c : CI k d S) {j : Nat} (hj : j < 10) (h : sIn S j = true ∧ sT S (sB S j 2) 4 = 0 ∧ sFr S (sAh j) (j % 2) = true) : (∀ j', j' < 10 → sIn (sAdmit S j).2 j' = (if j' = j then false else sIn S j') ∧ (j' ≠ j → sIn S j' = true → sT (sAdmit S j).2 (sB (sAdmit S j).2 j' 2) 4 = sT S (sB S j' 2) 4)) ∧ (∀ x, At (sAdmit S j).2 x ↔ x = sAh j ∨ At S x) := by
  obtain ⟨hT, hB⟩ := adm_T h
  obtain ⟨o1, o2, o3⟩ := in_iff.mp h.1
  have n : (sAdmit S j).2 381 = S 381 := hB _ (by decide)
  have b2 : ∀ j', j' < 10 → sB (sAdmit S j).2 j' 2 = sB S j' 2 := fun j' hj' => hB _ (by omega)
  have own : ∀ j', j' < 10 → j' ≠ j → sB S j' 2 = sB S j 2 → sIn S j' = false := by
    intro j' hj' ne q
    cases z : sIn S j' with
    | false => rfl
    | true =>
      have d1 := adm_d I c hj' z
      have d2 := adm_d I c hj h.1
      have z3 := (in_iff.mp z).2.2
      rw [q, o3] at z3
      exact absurd (show j' = j by omega) ne
  refine ⟨fun j' hj' => ?_, fun x => ?_⟩
  · by_cases e : j' = j
    · rw [if_pos e]
      refine ⟨?_, fun q => absurd e q⟩
      cases z : sIn (sAdmit S j).2 j' with
      | false => rfl
      | true =>
        have := (in_iff.mp z).2.1
        rw [b2 j' hj', e, hT _ 2 (by decide), if_pos ⟨rfl, rfl⟩] at this
        exact absurd this (by decide)
    · rw [if_neg e]
      by_cases q : sB S j' 2 = sB S j 2
      · rw [own j' hj' e q]
        refine ⟨?_, fun _ z => by cases z⟩
        cases z : sIn (sAdmit S j).2 j' with
        | false => rfl
        | true =>
          have := (in_iff.mp z).2.1
          rw [b2 j' hj', q, hT _ 2 (by decide), if_pos ⟨rfl, rfl⟩] at this
          exact absurd this (by decide)
      · refine ⟨?_, fun _ _ => ?_⟩
        · unfold sIn
          rw [b2 j' hj', hT _ 2 (by decide), hT _ 3 (by decide), if_neg (fun z => q z.1), if_neg (fun z => q z.1), if_neg (fun z => q z.1), if_neg (fun z => q z.1)]
        · rw [b2 j' hj', hT _ 4 (by decide), if_neg (by omega), if_neg (by omega)]
  · unfold At
    rw [n]
    have lt : sB S j 2 < S 381 := ((I.bk hj).2.2.1).resolve_left o1
    constructor
    · rintro ⟨t, h1, h2, h3⟩
      by_cases e : t = sB S j 2
      · left
        rw [hT t 3 (by decide), if_neg (by omega), if_pos ⟨e, rfl⟩] at h3
        exact h3.symm
      · right
        rw [hT t 2 (by decide), if_neg (fun z => e z.1), if_neg (fun z => e z.1)] at h2
        rw [hT t 3 (by decide), if_neg (fun z => e z.1), if_neg (fun z => e z.1)] at h3
        exact ⟨t, h1, h2, h3⟩
    · rintro (rfl | ⟨t, h1, h2, h3⟩)
      · exact ⟨sB S j 2, lt, by rw [hT _ 2 (by decide), if_pos ⟨rfl, rfl⟩], by rw [hT _ 3 (by decide), if_neg (by omega), if_pos ⟨rfl, rfl⟩]⟩
      · have e : ¬ t = sB S j 2 := by rintro rfl; omega
        exact ⟨t, h1, by rw [hT t 2 (by decide), if_neg (fun z => e z.1), if_neg (fun z => e z.1)]; exact h2, by rw [hT t 3 (by decide), if_neg (fun z => e z.1), if_neg (fun z => e z.1)]; exact h3⟩
theorem vw_admit (I : Inv M S) (J : Inv M' R) (c : CI k d S) (c' : CI k d R) (v : Vw S R) {j : Nat} (hj : j < 10) : Vw (sAdmit S j).2 (sAdmit R j).2 := by
  have fv := fr_vw c c' v (sAh j)
  obtain ⟨v1, v2, v3⟩ := v
  obtain ⟨w0, w1, w2, w3⟩ := v2 j hj
  by_cases h : sIn S j = true ∧ sT S (sB S j 2) 4 = 0 ∧ sFr S (sAh j) (j % 2) = true
  · have jd := adm_d I c hj h.1
    have h' : sIn R j = true ∧ sT R (sB R j 2) 4 = 0 ∧ sFr R (sAh j) (j % 2) = true := ⟨by rw [← w2]; exact h.1, by rw [← w3 h.1]; exact h.2.1, by rw [jd, ← fv, ← jd]; exact h.2.2⟩
    obtain ⟨x1, x2⟩ := adm_v I c hj h
    obtain ⟨z1, z2⟩ := adm_v J c' hj h'
    obtain ⟨-, hB⟩ := adm_T h
    obtain ⟨-, hB'⟩ := adm_T h'
    refine ⟨fun i i1 i2 => ?_, fun j' hj' => ?_, fun x => ?_⟩
    · rw [hB i (by omega), hB' i (by omega)]; exact v1 i i1 i2
    · obtain ⟨y0, y1, y2, y3⟩ := v2 j' hj'
      rw [show sB (sAdmit S j).2 j' 0 = _ from hB _ (by omega), show sB (sAdmit S j).2 j' 1 = _ from hB _ (by omega), show sB (sAdmit R j).2 j' 0 = _ from hB' _ (by omega), show sB (sAdmit R j).2 j' 1 = _ from hB' _ (by omega), (x1 j' hj').1, (z1 j' hj').1, y2]
      refine ⟨y0, y1, rfl, fun q => ?_⟩
      by_cases e : j' = j
      · rw [if_pos e] at q; cases q
      · rw [if_neg e] at q
        rw [(x1 j' hj').2 e (by rw [y2]; exact q), (z1 j' hj').2 e q]
        exact y3 (by rw [y2]; exact q)
    · rw [x2, z2, v3 x]
  · have h' : ¬ (sIn R j = true ∧ sT R (sB R j 2) 4 = 0 ∧ sFr R (sAh j) (j % 2) = true) := by
      intro z
      have jd := adm_d J c' hj z.1
      have zi : sIn S j = true := by rw [w2]; exact z.1
      exact h ⟨zi, by rw [w3 zi]; exact z.2.1, by rw [jd, fv, ← jd]; exact z.2.2⟩
    unfold sAdmit
    rw [if_neg h, if_neg h']
    exact ⟨v1, v2, v3⟩
end
